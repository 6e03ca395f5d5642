/-! THE CLASS: its first fault of a name stays over statements further on -/
section Nfs
variable {mc : Mem} {V : Int → Int} {B : Int}
theorem dupB_nf {i : Int} (h : B ≤ mc 54 i.toNat) : ∀ (w : List Int) (s : xSt), s.2.2.2.1 = B → (dupB mc i w s).2.2.2.1 = B
  | [], _, h0 => h0
  | j :: w, s, h0 => by
    unfold dupB
    split
    · exact dupB_nf h w _ ((bl_nf (by omega)).trans h0)
    · exact dupB_nf h w _ h0
theorem xE_nB {H : Int} {y : yS} {a : xT} {nt : Nat} {dep p q : Int} (hn : nt ≤ 7) (h : P (kd mc) V a nt dep p q) (hs : ∀ j, p ≤ j → j < q → B ≤ mc 54 j.toNat) {s : xSt} (h0 : s.2.2.2.1 = B) : (xE (sww H y mc) a s).2.2.2.1 = B := (xE_nf (mc := sww H y mc) (tsz a + 1) a (by omega) nt dep p q hn h s (fun j j1 j2 => by rw [h0]; exact hs j j1 j2)).trans h0
theorem us_nB {i k : Int} {s : xSt} (h : B ≤ mc 54 i.toNat) (h0 : s.2.2.2.1 = B) : (us mc i k s).2.2.2.1 = B := (us_nf (by omega)).trans h0
theorem tlS_nB {i : Int} {y : yS} {s : xSt} (h : B ≤ mc 54 i.toNat) (h0 : s.2.2.2.1 = B) : (tlS mc i y s).2.2.2.1 = B := by
  unfold tlS
  by_cases hc : (kI mc (idT mc i) = 0 ∧ (if idT mc i < 0 ∨ mc 57 4 ≤ idT mc i then -1 else y.2.2.1 (idT mc i).toNat) = -1)
  · rw [if_pos hc]; exact h0
  · rw [if_neg hc]; exact (bl_nf (by omega)).trans h0
theorem wW_nf : ∀ (k : Nat) (t : xT), tsz t < k → ∀ (dep p q : Int), P (kd mc) V t 11 dep p q → (∀ j, p ≤ j → j < q → B ≤ mc 54 j.toNat) → ∀ (w : List Int) (c : zS), c.1.2.2.2.1 = B → (wW mc t w c).1.2.2.2.1 = B := by
  intro k
  induction k with
  | zero => intro t ht; exact absurd ht (Nat.not_lt_zero _)
  | succ k ih =>
    intro t ht dep p q h hs w c h0
    rcases inv_11 h with ⟨i, a, b, rfl, g1, g2, g3, r, g4, g5⟩ | ⟨i, a, b, rfl, hpq, ho⟩
    · rw [tsz_nd] at ht
      have l1 := P_le a g4
      have l2 := P_le b g5
      show (wW mc b (w ++ [i + 1]) (dupB mc (i + 1) w (em 24 (nmI mc (idT mc (i + 1))) (nln c.2) (us mc (i + 1) 3 c.1)), nlb c.2)).1.2.2.2.1 = B
      exact ih b (by omega) dep r q g5 (fun j j1 j2 => hs j (by omega) j2) _ _ (dupB_nf (hs _ (by omega) (by omega)) w _ (us_nB (hs _ (by omega) (by omega)) h0))
    · exact h0
theorem stS_nf : ∀ (k : Nat) (t : xT), tsz t < k → ∀ (nt : Nat) (dep p q : Int), 8 ≤ nt → nt ≤ 12 → P (kd mc) V t nt dep p q → (∀ j, p ≤ j → j < q → B ≤ mc 54 j.toNat) → ∀ (H l n : Int) (c : zS), c.1.2.2.2.1 = B → (stS mc t H l n c).1.2.2.2.1 = B := by
  intro k
  induction k with
  | zero => intro t ht; exact absurd ht (Nat.not_lt_zero _)
  | succ k ih =>
    intro t ht nt dep p q hn8 hn12 h hs H l n c h0
    have l0 := P_le t h
    have hc : nt = 8 ∨ nt = 9 ∨ nt = 10 ∨ nt = 11 ∨ nt = 12 := by omega
    rcases hc with rfl | rfl | rfl | rfl | rfl
    · obtain ⟨i, a, b, rfl, ho, h30, hv, r, h1, h3, hq2⟩ := inv_8 h
      rw [tsz_nd] at ht
      have l1 := P_le a h1
      exact ih a (by omega) 9 _ _ _ (by decide) (by decide) h1 (fun j j1 j2 => hs j (by omega) (by omega)) H 0 0 c h0
    · rcases inv_9 h with ⟨i, a, b, rfl, ho, r, h1, h3⟩ | ⟨i, a, b, rfl, hpq, ho⟩
      · rw [tsz_nd] at ht
        have l1 := P_le a h1
        have l2 := P_le b h3
        exact ih b (by omega) 9 _ _ _ (by decide) (by decide) h3 (fun j j1 j2 => hs j (by omega) (by omega)) H 0 0 _ (ih a (by omega) 10 _ _ _ (by decide) (by decide) h1 (fun j j1 j2 => hs j (by omega) (by omega)) H 0 0 c h0)
      · exact h0
    · rcases inv_10 h with ⟨i, a, b, rfl, h1, h3, h5, h6, r, h8, h9, h10⟩ | ⟨i, a, b, rfl, h1, h3, r, h8, h9, h10⟩ | ⟨i, a, b, rfl, h1, h3, h5, r, h8, h9, h10⟩ | ⟨i, a, b, rfl, h1, h3, h5, h6, r, u, h8, h9, h10, h11, h12, h13⟩ | ⟨i, a, b, rfl, h1, r, h8, h9, h10⟩ | ⟨i, a, b, rfl, h1, r, h8, h9⟩ | ⟨i, a, b, rfl, h1, r, h8, h9⟩ | ⟨i, a, b, rfl, h1, r, h8, h9, h10⟩ | ⟨i, a, b, rfl, h1, h3, h5, h6, h8⟩ | ⟨i, a, b, rfl, h1, r, h8, h9, h10⟩ | ⟨i, a, b, rfl, h1, r, h8, h9, h10⟩
      · have l1 := P_le a h8
        have e1 := xE_nB (H := H) (y := c.2) (by decide) h8 (fun j j1 j2 => hs j (by omega) (by omega)) h0
        exact tlS_nB (hs (i + 1) (by omega) (by omega)) e1
      · have l1 := P_le a h8
        exact xE_nB (H := H) (y := c.2) (by decide) h8 (fun j j1 j2 => hs j (by omega) (by omega)) (us_nB (hs i (by omega) (by omega)) h0)
      · have l1 := P_le a h8
        have e1 := xE_nB (H := H) (y := c.2) (by decide) h8 (fun j j1 j2 => hs j (by omega) (by omega)) h0
        show (if lI (sww H c.2 mc) (idT mc i) = -1 then em 5 (nmI mc (idT mc i)) (-1) (us mc i 1 (xE (sww H c.2 mc) a c.1)) else em 3 (lI (sww H c.2 mc) (idT mc i)) (-1) (xE (sww H c.2 mc) a c.1)).2.2.2.1 = B
        split
        · exact us_nB (hs i (by omega) (by omega)) e1
        · exact e1
      · have l1 := P_le a h8
        have l2 := P_le b h11
        exact xE_nB (H := H) (y := c.2) (by decide) h11 (fun j j1 j2 => hs j (by omega) (by omega)) (xE_nB (H := H) (y := c.2) (by decide) h8 (fun j j1 j2 => hs j (by omega) (by omega)) (us_nB (hs i (by omega) (by omega)) h0))
      · rw [tsz_nd] at ht
        have l1 := P_le a h8
        have l2 := P_le b h9
        exact ih b (by omega) 8 _ _ _ (by decide) (by decide) h9 (fun j j1 j2 => hs j (by omega) (by omega)) H 0 0 _ (xE_nB (H := H) (y := nlb c.2) (by decide) h8 (fun j j1 j2 => hs j (by omega) (by omega)) h0)
      · rw [tsz_nd] at ht
        have l1 := P_le a h8
        have l2 := P_le b h9
        exact ih b (by omega) 12 _ _ _ (by decide) (by decide) h9 (fun j j1 j2 => hs j (by omega) (by omega)) H _ 0 _ (xE_nB (H := H) (y := nlb c.2) (by decide) h8 (fun j j1 j2 => hs j (by omega) (by omega)) h0)
      · rw [tsz_nd] at ht
        have l1 := P_le a h8
        have l2 := P_le b h9
        exact ih b (by omega) 8 _ _ _ (by decide) (by decide) h9 (fun j j1 j2 => hs j (by omega) (by omega)) H 0 0 _ (xE_nB (H := H) (y := slb (nln c.2) (c.1.1.length : Int) (nlb (nlb c.2))) (by decide) h8 (fun j j1 j2 => hs j (by omega) (by omega)) h0)
      · rw [tsz_nd] at ht
        have l1 := P_le a h8
        have l2 := P_le b h10
        have e1 := ih a (by omega) 8 _ _ _ (by decide) (by decide) h8 (fun j j1 j2 => hs j (by omega) (by omega)) (nln (nlb c.2)) 0 0 (c.1, nlb (nlb c.2)) h0
        rw [y_30]
        exact ih b (by omega) 11 _ _ _ (by decide) (by decide) h10 (fun j j1 j2 => hs j (by omega) (by omega)) H _ _ _ (wW_nf (tsz b + 1) b (by omega) _ _ _ h10 (fun j j1 j2 => hs j (by omega) (by omega)) [] _ e1)
      · exact us_nB (hs (i + 1) (by omega) (by omega)) h0
      · have l1 := P_le a h8
        exact xE_nB (H := H) (y := c.2) (by decide) h8 (fun j j1 j2 => hs j (by omega) (by omega)) h0
      · have l1 := P_le a h8
        exact xE_nB (H := H) (y := c.2) (by decide) h8 (fun j j1 j2 => hs j (by omega) (by omega)) h0
    · rcases inv_11 h with ⟨i, a, b, rfl, g1, g2, g3, r, g4, g5⟩ | ⟨i, a, b, rfl, hpq, ho⟩
      · rw [tsz_nd] at ht
        have l1 := P_le a g4
        have l2 := P_le b g5
        exact ih b (by omega) 11 _ _ _ (by decide) (by decide) g5 (fun j j1 j2 => hs j (by omega) (by omega)) H l _ _ (ih a (by omega) 8 _ _ _ (by decide) (by decide) g4 (fun j j1 j2 => hs j (by omega) (by omega)) H 0 0 (c.1, slb n (c.1.1.length : Int) c.2) h0)
      · exact h0
    · obtain ⟨i, a, b, rfl, r, g1, g2, g3⟩ := inv_12 h
      rw [tsz_nd] at ht
      have l1 := P_le a g1
      have l2 := P_le b g3
      rw [y_36]
      exact ih b (by omega) 8 _ _ _ (by decide) (by decide) g3 (fun j j1 j2 => hs j (by omega) (by omega)) H 0 0 _ (ih a (by omega) 8 _ _ _ (by decide) (by decide) g1 (fun j j1 j2 => hs j (by omega) (by omega)) H 0 0 c h0)
/-- a broken state over statements further on, in the class -/
theorem Br_stS {m : Mem} {s : xSt} {y : yS} {t : xT} {nt : Nat} {dep p q r r' e H l n : Int} (mo : ∀ i j, 0 ≤ i → i ≤ j → j ≤ e → mc 54 i.toNat ≤ mc 54 j.toNat) (X : Br mc m s p r) (hp : 0 ≤ p) (h8 : 8 ≤ nt) (h12 : nt ≤ 12) (h : P (kd mc) V t nt dep r' q) (hr : r ≤ r') (he : q ≤ e) : Br mc m (stS mc t H l n (s, y)).1 p q := by
  have l0 := P_le t h
  obtain ⟨b1, b2, j, b3, b4, b5, b6⟩ := X
  have := stS_nf (B := s.2.2.2.1) (tsz t + 1) t (by omega) nt dep r' q h8 h12 h (fun i h1 h2 => by rw [b6]; exact mo j i (by omega) (by omega) (by omega)) H l n (s, y) rfl
  exact ⟨b1, b2, j, b3, by omega, b5, by rw [this]; exact b6⟩
end Nfs
/-- two one behind the other -/
theorem Pst_tr {mc : Mem} {e : Int} {c1 c2 : zS} {y : yS} {m m1 m2 : Mem} {σ σ1 : Int → Int} {D H p r q p2 w1 w2 v1 v2 : Int} {G : Prop} (F1 : FS m m1) (e1 : ∀ k : Int, k < (y.1.length : Int) → σ1 k = σ k) (A : Pok mc c1 y m m1 σ1 D G H p r w1 v1) (hpr : p ≤ r) (X : Pst mc e c2 c1.2 m1 m2 σ1 D G H r q p2 w2 v2) : Pst mc e c2 y m m2 σ D G H p q p2 (w1 + w2) (v1 + v2) := by
  obtain ⟨F2, h0, h1, σ2, e2, Y⟩ := X
  have ly := A.ly
  refine ⟨FS_tr F1 F2, h0, h1, σ2, fun k hk => (e2 k (by omega)).trans (e1 k hk), ?_⟩
  rcases Y with ⟨Y, hp2⟩ | ⟨W, Y⟩
  · left
    have a41 := A.o41
    have b41 := Y.o41
    have alc := A.lc
    have blc := Y.lc
    have bly := Y.ly
    have a30 := A.l30
    have b30 := Y.l30
    have a39 := A.w39
    exact ⟨⟨Y.b0, Y.sr, Y.pz, by omega, by omega, by omega, by omega, A.w39.trans Y.w39, A.w40.trans Y.w40, fun k hk => (Y.c176 k (by omega)).trans (A.c176 k hk)⟩, hp2⟩
  · exact Or.inr ⟨W, Br_le Y hpr (Int.le_refl _)⟩
