/-! BRACES of the trees; the model's way behind a block -/
def dbr (c : Int) : Int := if c = 123 then 1 else if c = 125 then -1 else 0
def Zb (K : Int → Int) : Nat → Int
  | 0 => 0
  | n + 1 => Zb K n + dbr (K n)
section Bra
variable {K V : Int → Int}
theorem Zb_s {k : Int} (h : 0 ≤ k) : Zb K (k + 1).toNat = Zb K k.toNat + dbr (K k) := by
  have e1 : (k + 1).toNat = k.toNat + 1 := by omega
  rw [e1]
  have e2 : ((k.toNat : Nat) : Int) = k := by omega
  show Zb K k.toNat + dbr (K (k.toNat : Int)) = _
  rw [e2]
theorem dbr_0 {c : Int} (h1 : c ≠ 123) (h2 : c ≠ 125) : dbr c = 0 := by
  unfold dbr
  rw [if_neg h1, if_neg h2]
/-- no brace in an expression -/
theorem xE_br : ∀ (k : Nat) (t : xT), tsz t < k → ∀ (nt : Nat) (dep p q : Int), nt ≤ 7 → P K V t nt dep p q → ∀ j, p ≤ j → j < q → K j ≠ 123 ∧ K j ≠ 125 := by
  intro k
  induction k with
  | zero => intro t ht; exact absurd ht (Nat.not_lt_zero _)
  | succ k ih =>
    intro t ht nt dep p q hnt h j j1 j2
    have hc : nt = 0 ∨ nt = 1 ∨ nt = 2 ∨ nt = 3 ∨ nt = 4 ∨ nt = 5 ∨ nt = 6 ∨ nt = 7 := by omega
    have lit : ∀ (i : Int), K i = 2 ∨ K i = 3 ∨ K i = 16 ∨ K i = 40 ∨ K i = 41 ∨ K i = 42 ∨ K i = 43 ∨ K i = 44 ∨ K i = 45 ∨ K i = 47 ∨ K i = 37 ∨ K i = 91 ∨ K i = 93 → j = i → K j ≠ 123 ∧ K j ≠ 125 := fun i hi hj => by subst hj; omega
    rcases hc with rfl | rfl | rfl | rfl | rfl | rfl | rfl | rfl
    · rcases inv_0 h with ⟨i, a, b, rfl, g1, g2⟩ | ⟨i, a, b, rfl, r, g1, g2, g3, g4⟩
      · rw [tsz_nd] at ht
        exact ih a (by omega) _ _ _ _ (by decide) g1 j j1 j2
      · rw [tsz_nd] at ht
        have := P_le a g1
        by_cases z1 : j < r
        · exact ih a (by omega) _ _ _ _ (by decide) g1 j j1 z1
        · by_cases z2 : j = r
          · subst z2
            have := cm_y g2 g3
            omega
          · exact ih b (by omega) _ _ _ _ (by decide) g4 j (by omega) j2
    · obtain ⟨i, a, b, rfl, r, g1, g2⟩ := inv_1 h
      rw [tsz_nd] at ht
      by_cases z1 : j < r
      · exact ih a (by omega) _ _ _ _ (by decide) g1 j j1 z1
      · exact ih b (by omega) _ _ _ _ (by decide) g2 j (by omega) j2
    · rcases inv_2 h with ⟨i, a, b, rfl, g0, r, g1, g2⟩ | ⟨i, a, b, rfl, g1, g2⟩
      · rw [tsz_nd] at ht
        by_cases z0 : j = p
        · exact lit p (by omega) z0
        · by_cases z1 : j < r
          · exact ih a (by omega) _ _ _ _ (by decide) g1 j (by omega) z1
          · exact ih b (by omega) _ _ _ _ (by decide) g2 j (by omega) j2
      · omega
    · obtain ⟨i, a, b, rfl, r, g1, g2⟩ := inv_3 h
      rw [tsz_nd] at ht
      by_cases z1 : j < r
      · exact ih a (by omega) _ _ _ _ (by decide) g1 j j1 z1
      · exact ih b (by omega) _ _ _ _ (by decide) g2 j (by omega) j2
    · rcases inv_4 h with ⟨i, a, b, rfl, g0, r, g1, g2⟩ | ⟨i, a, b, rfl, g1, g2⟩
      · rw [tsz_nd] at ht
        by_cases z0 : j = p
        · exact lit p (by omega) z0
        · by_cases z1 : j < r
          · exact ih a (by omega) _ _ _ _ (by decide) g1 j (by omega) z1
          · exact ih b (by omega) _ _ _ _ (by decide) g2 j (by omega) j2
      · omega
    · rcases inv_5 h with ⟨i, a, b, rfl, g1, g2, g3⟩ | ⟨i, a, b, rfl, g1, g2, r, g3, g4, g5⟩ | ⟨i, a, b, rfl, g1, g2, g3⟩ | ⟨i, a, b, rfl, g1, g2⟩ | ⟨i, a, b, rfl, g1, g2, g3, g4, g5⟩ | ⟨i, a, b, rfl, g1, g2, g3, g4, r, g5, g6, g7⟩ | ⟨i, a, b, rfl, g1, g2, g3⟩
      · rw [tsz_nd] at ht
        by_cases z0 : j = p
        · exact lit p (by omega) z0
        · exact ih a (by omega) _ _ _ _ (by decide) g3 j (by omega) j2
      · rw [tsz_nd] at ht
        by_cases z0 : j = p
        · exact lit p (by omega) z0
        · by_cases z1 : j = r
          · exact lit r (by omega) z1
          · exact ih a (by omega) _ _ _ _ (by decide) g3 j (by omega) (by omega)
      · exact lit p (by omega) (by omega)
      · exact lit p (by omega) (by omega)
      · exact lit p (by omega) (by omega)
      · rw [tsz_nd] at ht
        by_cases z0 : j = p
        · exact lit p (by omega) z0
        · by_cases z2 : j = p + 1
          · exact lit (p + 1) (by omega) z2
          · by_cases z1 : j = r
            · exact lit r (by omega) z1
            · exact ih a (by omega) _ _ _ _ (by decide) g5 j (by omega) (by omega)
      · rw [tsz_nd] at ht
        by_cases z0 : j = p
        · exact lit p (by omega) z0
        · exact ih a (by omega) _ _ _ _ (by decide) g3 j (by omega) j2
    · rcases inv_6 h with ⟨i, a, b, rfl, g1, g2, g3, g4⟩ | ⟨i, a, b, rfl, g1, g2, g3, r, g4, g5⟩
      · by_cases z0 : j = p
        · exact lit p (by omega) z0
        · exact lit (p + 1) (by omega) (by omega)
      · rw [tsz_nd] at ht
        by_cases z0 : j = p
        · exact lit p (by omega) z0
        · by_cases z1 : j < r
          · exact ih a (by omega) _ _ _ _ (by decide) g4 j (by omega) z1
          · exact ih b (by omega) _ _ _ _ (by decide) g5 j (by omega) j2
    · rcases inv_7 h with ⟨i, a, b, rfl, g1, r, g2, g3⟩ | ⟨i, a, b, rfl, g1, g2⟩
      · rw [tsz_nd] at ht
        by_cases z0 : j = p
        · exact lit p (by omega) z0
        · by_cases z1 : j < r
          · exact ih a (by omega) _ _ _ _ (by decide) g2 j (by omega) z1
          · exact ih b (by omega) _ _ _ _ (by decide) g3 j (by omega) j2
      · exact lit p (by omega) (by omega)
/-- a stretch that is balanced -/
def Zok (K : Int → Int) (p q : Int) : Prop := (∀ k, p ≤ k → k ≤ q → Zb K p.toNat ≤ Zb K k.toNat) ∧ Zb K q.toNat = Zb K p.toNat
theorem Zok_tr {p r q : Int} (h1 : Zok K p r) (h2 : Zok K r q) : Zok K p q := by
  refine ⟨fun k k1 k2 => ?_, h2.2.trans h1.2⟩
  by_cases h : k ≤ r
  · exact h1.1 k k1 h
  · have := h2.1 k (by omega) k2
    have := h1.2
    omega
theorem Zok_rf {p : Int} : Zok K p p := by
  refine ⟨fun k k1 k2 => ?_, rfl⟩
  have : k = p := by omega
  subst this
  exact Int.le_refl _
theorem Zok_1 {p : Int} (hp : 0 ≤ p) (h1 : K p ≠ 123) (h2 : K p ≠ 125) : Zok K p (p + 1) := by
  have e1 := Zb_s (K := K) hp
  rw [dbr_0 h1 h2] at e1
  refine ⟨fun k k1 k2 => ?_, by omega⟩
  have : k = p ∨ k = p + 1 := by omega
  rcases this with rfl | rfl <;> omega
theorem Zok_n {p q : Int} (hp : 0 ≤ p) (hpq : p ≤ q) (h : ∀ j, p ≤ j → j < q → K j ≠ 123 ∧ K j ≠ 125) : Zok K p q := by
  obtain ⟨n, hn⟩ : ∃ n : Nat, q = p + n := ⟨(q - p).toNat, by omega⟩
  subst hn
  induction n with
  | zero => have : p + ((0 : Nat) : Int) = p := by omega
            rw [this]; exact Zok_rf
  | succ n ih =>
    have e1 : p + ((n + 1 : Nat) : Int) = p + n + 1 := by omega
    rw [e1]
    exact Zok_tr (ih (by omega) (fun j j1 j2 => h j j1 (by omega))) (Zok_1 (by omega) (h _ (by omega) (by omega)).1 (h _ (by omega) (by omega)).2)
theorem Zok_x {t : xT} {nt : Nat} {dep p q : Int} (hn : nt ≤ 7) (hp : 0 ≤ p) (h : P K V t nt dep p q) : Zok K p q := Zok_n hp (P_le t h) (xE_br (tsz t + 1) t (by omega) nt dep p q hn h)
/-- a block: open until its end -/
theorem Zok_b {p r : Int} (hp : 0 ≤ p) (h1 : K p = 123) (h2 : Zok K (p + 1) r) (h3 : K r = 125) (hr : p + 1 ≤ r) : Zok K p (r + 1) ∧ ∀ k, p < k → k ≤ r → Zb K p.toNat + 1 ≤ Zb K k.toNat := by
  have e1 := Zb_s (K := K) hp
  have e2 := Zb_s (K := K) (k := r) (by omega)
  have d1 : dbr (K p) = 1 := by rw [h1]; rfl
  have d2 : dbr (K r) = -1 := by rw [h3]; rfl
  rw [d1] at e1
  rw [d2] at e2
  have z := h2.2
  have a : ∀ k, p < k → k ≤ r → Zb K p.toNat + 1 ≤ Zb K k.toNat := fun k k1 k2 => by
    have := h2.1 k (by omega) k2
    omega
  refine ⟨⟨fun k k1 k2 => ?_, by omega⟩, a⟩
  by_cases z1 : k = p
  · subst z1; exact Int.le_refl _
  · by_cases z2 : k = r + 1
    · subst z2; omega
    · have := a k (by omega) (by omega)
      omega
theorem Zok_t : ∀ (k : Nat) (t : xT), tsz t < k → ∀ (nt : Nat) (dep p q : Int), 8 ≤ nt → nt ≤ 12 → 0 ≤ p → P K V t nt dep p q → Zok K p q ∧ (nt = 8 → ∀ k, p < k → k < q → Zb K p.toNat + 1 ≤ Zb K k.toNat) := by
  intro k
  induction k with
  | zero => intro t ht; exact absurd ht (Nat.not_lt_zero _)
  | succ k ih =>
    intro t ht nt dep p q hn8 hn12 hp h
    have l0 := P_le t h
    have one : ∀ i c, 0 ≤ i → K i = c → c ≠ 123 → c ≠ 125 → Zok K i (i + 1) := fun i c hi hc h1 h2 => Zok_1 hi (by rw [hc]; exact h1) (by rw [hc]; exact h2)
    have hc : nt = 8 ∨ nt = 9 ∨ nt = 10 ∨ nt = 11 ∨ nt = 12 := by omega
    rcases hc with rfl | rfl | rfl | rfl | rfl
    · obtain ⟨i, a, b, rfl, ho, h30, hv, r, h1, h3, hq2⟩ := inv_8 h
      rw [tsz_nd] at ht
      have l1 := P_le a h1
      have z := (ih a (by omega) 9 _ _ _ (by decide) (by decide) (by omega) h1).1
      subst hq2
      have := Zok_b hp ho z h3 l1
      exact ⟨this.1, fun _ k k1 k2 => this.2 k k1 (by omega)⟩
    · refine ⟨?_, fun z => absurd z (by decide)⟩
      rcases inv_9 h with ⟨i, a, b, rfl, ho, r, h1, h3⟩ | ⟨i, a, b, rfl, hpq, ho⟩
      · rw [tsz_nd] at ht
        have l1 := P_le a h1
        exact Zok_tr (ih a (by omega) 10 _ _ _ (by decide) (by decide) hp h1).1 (ih b (by omega) 9 _ _ _ (by decide) (by decide) (by omega) h3).1
      · subst hpq; exact Zok_rf
    · refine ⟨?_, fun z => absurd z (by decide)⟩
      rcases inv_10 h with ⟨i, a, b, rfl, h1, h3, h5, h6, r, h8, h9, h10⟩ | ⟨i, a, b, rfl, h1, h3, r, h8, h9, h10⟩ | ⟨i, a, b, rfl, h1, h3, h5, r, h8, h9, h10⟩ | ⟨i, a, b, rfl, h1, h3, h5, h6, r, u, h8, h9, h10, h11, h12, h13⟩ | ⟨i, a, b, rfl, h1, r, h8, h9, h10⟩ | ⟨i, a, b, rfl, h1, r, h8, h9⟩ | ⟨i, a, b, rfl, h1, r, h8, h9⟩ | ⟨i, a, b, rfl, h1, r, h8, h9, h10⟩ | ⟨i, a, b, rfl, h1, h3, h5, h6, h8⟩ | ⟨i, a, b, rfl, h1, r, h8, h9, h10⟩ | ⟨i, a, b, rfl, h1, r, h8, h9, h10⟩
      · have l1 := P_le a h8
        subst h10
        have x3 := one (p + 2) _ (by omega) h5 (by decide) (by decide)
        have x2 := one (p + 1) _ (by omega) h3 (by decide) (by decide)
        have e3 : p + 2 + 1 = p + 3 := by omega
        have e2 : p + 1 + 1 = p + 2 := by omega
        rw [e3] at x3
        rw [e2] at x2
        exact Zok_tr (Zok_tr (Zok_tr (Zok_tr (one p _ hp h1 (by decide) (by decide)) x2) x3) (Zok_x (by decide) (by omega) h8)) (one r _ (by omega) h9 (by decide) (by decide))
      · have l1 := P_le a h8
        subst h10
        exact Zok_tr (Zok_tr (one p _ hp h1 (by decide) (by decide)) (Zok_x (by decide) (by omega) h8)) (one r _ (by omega) h9 (by decide) (by decide))
      · have l1 := P_le a h8
        subst h10
        have x2 := one (p + 1) _ (by omega) h3 (by decide) (by decide)
        have e2 : p + 1 + 1 = p + 2 := by omega
        rw [e2] at x2
        exact Zok_tr (Zok_tr (Zok_tr (one p _ hp h1 (by decide) (by decide)) x2) (Zok_x (by decide) (by omega) h8)) (one r _ (by omega) h9 (by decide) (by decide))
      · have l1 := P_le a h8
        have l2 := P_le b h11
        subst h13
        have x2 := one (p + 1) _ (by omega) h3 (by decide) (by decide)
        have e2 : p + 1 + 1 = p + 2 := by omega
        rw [e2] at x2
        have x3 := one (r + 1) _ (by omega) h10 (by decide) (by decide)
        have e3 : r + 1 + 1 = r + 2 := by omega
        rw [e3] at x3
        exact Zok_tr (Zok_tr (Zok_tr (Zok_tr (Zok_tr (Zok_tr (one p _ hp h1 (by decide) (by decide)) x2) (Zok_x (by decide) (by omega) h8)) (one r _ (by omega) h9 (by decide) (by decide))) x3) (Zok_x (by decide) (by omega) h11)) (one u _ (by omega) h12 (by decide) (by decide))
      · rw [tsz_nd] at ht
        have l1 := P_le a h8
        exact Zok_tr (Zok_tr (one p _ hp h1 (by decide) (by decide)) (Zok_x (by decide) (by omega) h8)) (ih b (by omega) 8 _ _ _ (by decide) (by decide) (by omega) h9).1
      · rw [tsz_nd] at ht
        have l1 := P_le a h8
        exact Zok_tr (Zok_tr (one p _ hp h1 (by decide) (by decide)) (Zok_x (by decide) (by omega) h8)) (ih b (by omega) 12 _ _ _ (by decide) (by decide) (by omega) h9).1
      · rw [tsz_nd] at ht
        have l1 := P_le a h8
        exact Zok_tr (Zok_tr (one p _ hp h1 (by decide) (by decide)) (Zok_x (by decide) (by omega) h8)) (ih b (by omega) 8 _ _ _ (by decide) (by decide) (by omega) h9).1
      · rw [tsz_nd] at ht
        have l1 := P_le a h8
        exact Zok_tr (Zok_tr (one p _ hp h1 (by decide) (by decide)) (ih a (by omega) 8 _ _ _ (by decide) (by decide) (by omega) h8).1) (ih b (by omega) 11 _ _ _ (by decide) (by decide) (by omega) h10).1
      · subst h8
        have x3 := one (p + 2) _ (by omega) h5 (by decide) (by decide)
        have x2 := one (p + 1) _ (by omega) h3 (by decide) (by decide)
        have e3 : p + 2 + 1 = p + 3 := by omega
        have e2 : p + 1 + 1 = p + 2 := by omega
        rw [e3] at x3
        rw [e2] at x2
        exact Zok_tr (Zok_tr (one p _ hp h1 (by decide) (by decide)) x2) x3
      · have l1 := P_le a h8
        subst h10
        exact Zok_tr (Zok_tr (one p _ hp h1 (by decide) (by decide)) (Zok_x (by decide) (by omega) h8)) (one r _ (by omega) h9 (by decide) (by decide))
      · have l1 := P_le a h8
        subst h10
        exact Zok_tr (Zok_tr (one p _ hp h1 (by decide) (by decide)) (Zok_x (by decide) (by omega) h8)) (one r _ (by omega) h9 (by decide) (by decide))
    · refine ⟨?_, fun z => absurd z (by decide)⟩
      rcases inv_11 h with ⟨i, a, b, rfl, g1, g2, g3, r, g4, g5⟩ | ⟨i, a, b, rfl, hpq, ho⟩
      · rw [tsz_nd] at ht
        have l1 := P_le a g4
        have x2 := one (p + 1) _ (by omega) g2 (by decide) (by decide)
        have e2 : p + 1 + 1 = p + 2 := by omega
        rw [e2] at x2
        exact Zok_tr (Zok_tr (Zok_tr (one p _ hp g1 (by decide) (by decide)) x2) (ih a (by omega) 8 _ _ _ (by decide) (by decide) (by omega) g4).1) (ih b (by omega) 11 _ _ _ (by decide) (by decide) (by omega) g5).1
      · subst hpq; exact Zok_rf
    · refine ⟨?_, fun z => absurd z (by decide)⟩
      obtain ⟨i, a, b, rfl, r, g1, g2, g3⟩ := inv_12 h
      rw [tsz_nd] at ht
      have l1 := P_le a g1
      exact Zok_tr (Zok_tr (ih a (by omega) 8 _ _ _ (by decide) (by decide) hp g1).1 (one r _ (by omega) g2 (by decide) (by decide))) (ih b (by omega) 8 _ _ _ (by decide) (by decide) (by omega) g3).1
end Bra
section M235
variable {F L d : Nat} {xs : Nat → Int32} {m : Mem} {K : Int → Int} {e : Int}
theorem TR_br {c k v : Int} (h : TR c k v) : (c = 123 ↔ (k = 4 ∧ v = 123)) ∧ (c = 125 ↔ (k = 4 ∧ v = 125)) := by
  unfold TR at h
  omega
theorem L_235 (hT : ∀ j, 0 ≤ j → j ≤ e → TR (K j) (m 161 j.toNat) (m 163 j.toNat)) (he : e < 3000) {p q : Int} (hp : 0 ≤ p) (hq : q ≤ e) (hend : Zb K q.toNat = Zb K p.toNat) (hin : ∀ k, p < k → k < q → Zb K p.toNat + 1 ≤ Zb K k.toNat) : ∀ (j : Nat) (k : Int) (n : Nat), p ≤ k → k < q → q = k + j → j ≤ n → Zb K k.toNat - Zb K p.toNat ≤ 3000 - j → LD F d la_235_0 lb_235_0 n ([(2, 158), (0, p), (0, Zb K k.toNat - Zb K p.toNat), (0, k)], Hp L xs m) = some (0, [], ([(2, 158), (0, p), (0, 0), (0, q)], Hp L xs m)) := by
  intro j
  induction j with
  | zero => intro k n h1 h2 h3; omega
  | succ j ih =>
    intro k n h1 h2 h3 h4 h5
    obtain ⟨n, rfl⟩ : ∃ n', n = n' + 1 := ⟨n - 1, by omega⟩
    have hTk := TR_br (hT k (by omega) (by omega))
    have zs := Zb_s (K := K) (k := k) (by omega)
    have hz0 : 0 ≤ Zb K k.toNat - Zb K p.toNat := by
      by_cases z : k = p
      · subst z; omega
      · have := hin k (by omega) h2
        omega
    have hk0 : 0 ≤ k ∧ k < 3001 := by omega
    rw [ld_s]
    have nxt : ∀ o, o = Zb K (k + 1).toNat - Zb K p.toNat → (if 0 < o then LD F d la_235_0 lb_235_0 n ([(2, 158), (0, p), (0, o), (0, k + 1)], Hp L xs m) else some (0, [], ([(2, 158), (0, p), (0, o), (0, k + 1)], Hp L xs m))) = some (0, [], ([(2, 158), (0, p), (0, 0), (0, q)], Hp L xs m)) := by
      intro o ho
      subst ho
      by_cases hkq : k + 1 = q
      · have z : Zb K q.toNat - Zb K p.toNat = 0 := by omega
        rw [hkq, z, if_neg (by decide)]
      · have := hin (k + 1) (by omega) (by omega)
        have d1 : dbr (K k) ≤ 1 := by unfold dbr; split <;> (try split) <;> omega
        rw [if_pos (by omega)]
        exact ih (k + 1) n (by omega) (by omega) (by omega) (by omega) (by omega)
    by_cases c1 : K k = 123
    · have d1 : dbr (K k) = 1 := by rw [c1]; rfl
      obtain ⟨v1, v2⟩ := hTk.1.1 c1
      have nx := nxt (Zb K k.toNat - Zb K p.toNat + 1) (by omega)
      generalize Zb K k.toNat - Zb K p.toNat = o at *
      simp (disch := first | omega | assumption) only [ea_235_0, eb_235_0, ev_0, ev_1, ev_16, ev_17, ev_18, ev_2, ev_3, ev_4, ev_5, ev_6, ev_7, ev_8, ev_9, ev_20, ev_21, ev_22, ev_23, ev_24, ev_25, ev_27, ev_28, ev_30, ev_31, ev_32, ev_33, ev_34, ev_35, ev_36, ev_37, ev_38, ev_39, ev_40, ev_41, ev_42, ev_43, ev_45, ev_46, ev_47, ev_48, ev_49, ev_50, ev_51, ev_52, ev_54, ev_55, ev_57, ev_58, ev_59, k2_0, k2_1, k2_2, k3a, k3b, k4, o1_s, xbin_0, xbin_1, xbin_2, xbin_3, xbin_4, xbin_5, xbin_6, xbin_7, xbin_8, xbin_9, xbin_11, xbin_12, xun_0, xun_1, xun_2, xun_3, xun_4, xun_5, k6a, k8, k8b, k9, k20, k20b_0, k20b_1, k20b_2, k20b_3, k20b_4, k20b_5, k21_0, k21_1, k21_2, k21_3, k21_4, k21_5, k23, k24, k25, k27, k28, k40, nz_1, nz_2, nz_3, k31_0, k31_1, k31_2, k31_3, k32u, k33, k34, k35, k35b, k36, k37, k38, k47, k49, k49b_0, k49b_1, k49b_2, k49b_3, k50_0, k50_s, k51_0, k51_s, k55, k58, k58b, rk_0, rk_1, rk_2, rk_9, rk_3, rk_4, rk_5, sw_n, sw_c, xtb_n, xtb_c, lset_0, lset_2, lset_1, lkm_0, lkm_2, lkm_9, lkm_1, lkm_n, if_some1, c_10, c_01, c_x0, c_1x, c_n0, c_nn, List.getElem?_cons_zero, List.getElem?_cons_succ, List.set_cons_zero, List.set_cons_succ, List.length_cons, List.length_nil, Int.reduceToNat, Nat.reduceDiv, Nat.reduceMod, Nat.reduceSub, Nat.reduceAdd, Nat.reduceMul, Nat.reduceLT, Nat.reduceLeDiff, Nat.reduceEqDiff, Int.reduceMod, Int.reduceSub, Int.reduceNeg, Int.reduceAdd, Int.reduceMul, Int.reduceLT, Int.reduceLE, Int.reduceEq, put_ss, if_true, if_false, ite_true, ite_false, reduceIte, eq_self, and_true, true_and, and_false, false_and, or_true, true_or, or_false, false_or, not_true_eq_false, not_false_eq_true, l1_i, l1_1, l1_0, l2_0, l2_1, l2_2, l2_3, l3_0, w2_0, w2_1, w2_2, w2_3, d1_0, d1_1, d1_2, d1_3, d2_i, d2_1, d2_0, k5_158_5, k6_161, k35_161, n_161, k5_158_7, k6_163, k35_163, n_163, v1, v2, w32_of, nx]
    · by_cases c2 : K k = 125
      · have d1 : dbr (K k) = -1 := by rw [c2]; rfl
        obtain ⟨v1, v2⟩ := hTk.2.1 c2
        have nx := nxt (Zb K k.toNat - Zb K p.toNat + -1) (by omega)
        generalize Zb K k.toNat - Zb K p.toNat = o at *
        simp (disch := first | omega | assumption) only [ea_235_0, eb_235_0, ev_0, ev_1, ev_16, ev_17, ev_18, ev_2, ev_3, ev_4, ev_5, ev_6, ev_7, ev_8, ev_9, ev_20, ev_21, ev_22, ev_23, ev_24, ev_25, ev_27, ev_28, ev_30, ev_31, ev_32, ev_33, ev_34, ev_35, ev_36, ev_37, ev_38, ev_39, ev_40, ev_41, ev_42, ev_43, ev_45, ev_46, ev_47, ev_48, ev_49, ev_50, ev_51, ev_52, ev_54, ev_55, ev_57, ev_58, ev_59, k2_0, k2_1, k2_2, k3a, k3b, k4, o1_s, xbin_0, xbin_1, xbin_2, xbin_3, xbin_4, xbin_5, xbin_6, xbin_7, xbin_8, xbin_9, xbin_11, xbin_12, xun_0, xun_1, xun_2, xun_3, xun_4, xun_5, k6a, k8, k8b, k9, k20, k20b_0, k20b_1, k20b_2, k20b_3, k20b_4, k20b_5, k21_0, k21_1, k21_2, k21_3, k21_4, k21_5, k23, k24, k25, k27, k28, k40, nz_1, nz_2, nz_3, k31_0, k31_1, k31_2, k31_3, k32u, k33, k34, k35, k35b, k36, k37, k38, k47, k49, k49b_0, k49b_1, k49b_2, k49b_3, k50_0, k50_s, k51_0, k51_s, k55, k58, k58b, rk_0, rk_1, rk_2, rk_9, rk_3, rk_4, rk_5, sw_n, sw_c, xtb_n, xtb_c, lset_0, lset_2, lset_1, lkm_0, lkm_2, lkm_9, lkm_1, lkm_n, if_some1, c_10, c_01, c_x0, c_1x, c_n0, c_nn, List.getElem?_cons_zero, List.getElem?_cons_succ, List.set_cons_zero, List.set_cons_succ, List.length_cons, List.length_nil, Int.reduceToNat, Nat.reduceDiv, Nat.reduceMod, Nat.reduceSub, Nat.reduceAdd, Nat.reduceMul, Nat.reduceLT, Nat.reduceLeDiff, Nat.reduceEqDiff, Int.reduceMod, Int.reduceSub, Int.reduceNeg, Int.reduceAdd, Int.reduceMul, Int.reduceLT, Int.reduceLE, Int.reduceEq, put_ss, if_true, if_false, ite_true, ite_false, reduceIte, eq_self, and_true, true_and, and_false, false_and, or_true, true_or, or_false, false_or, not_true_eq_false, not_false_eq_true, l1_i, l1_1, l1_0, l2_0, l2_1, l2_2, l2_3, l3_0, w2_0, w2_1, w2_2, w2_3, d1_0, d1_1, d1_2, d1_3, d2_i, d2_1, d2_0, k5_158_5, k6_161, k35_161, n_161, k5_158_7, k6_163, k35_163, n_163, v1, v2, w32_of, nx]
      · have d1 : dbr (K k) = 0 := dbr_0 c1 c2
        have nx := nxt (Zb K k.toNat - Zb K p.toNat) (by omega)
        by_cases v1 : m 161 k.toNat = 4
        · have v2 : ¬ m 163 k.toNat = 123 := fun z => c1 (hTk.1.2 ⟨v1, z⟩)
          have v3 : ¬ m 163 k.toNat = 125 := fun z => c2 (hTk.2.2 ⟨v1, z⟩)
          generalize Zb K k.toNat - Zb K p.toNat = o at *
          simp (disch := first | omega | assumption) only [ea_235_0, eb_235_0, ev_0, ev_1, ev_16, ev_17, ev_18, ev_2, ev_3, ev_4, ev_5, ev_6, ev_7, ev_8, ev_9, ev_20, ev_21, ev_22, ev_23, ev_24, ev_25, ev_27, ev_28, ev_30, ev_31, ev_32, ev_33, ev_34, ev_35, ev_36, ev_37, ev_38, ev_39, ev_40, ev_41, ev_42, ev_43, ev_45, ev_46, ev_47, ev_48, ev_49, ev_50, ev_51, ev_52, ev_54, ev_55, ev_57, ev_58, ev_59, k2_0, k2_1, k2_2, k3a, k3b, k4, o1_s, xbin_0, xbin_1, xbin_2, xbin_3, xbin_4, xbin_5, xbin_6, xbin_7, xbin_8, xbin_9, xbin_11, xbin_12, xun_0, xun_1, xun_2, xun_3, xun_4, xun_5, k6a, k8, k8b, k9, k20, k20b_0, k20b_1, k20b_2, k20b_3, k20b_4, k20b_5, k21_0, k21_1, k21_2, k21_3, k21_4, k21_5, k23, k24, k25, k27, k28, k40, nz_1, nz_2, nz_3, k31_0, k31_1, k31_2, k31_3, k32u, k33, k34, k35, k35b, k36, k37, k38, k47, k49, k49b_0, k49b_1, k49b_2, k49b_3, k50_0, k50_s, k51_0, k51_s, k55, k58, k58b, rk_0, rk_1, rk_2, rk_9, rk_3, rk_4, rk_5, sw_n, sw_c, xtb_n, xtb_c, lset_0, lset_2, lset_1, lkm_0, lkm_2, lkm_9, lkm_1, lkm_n, if_some1, c_10, c_01, c_x0, c_1x, c_n0, c_nn, List.getElem?_cons_zero, List.getElem?_cons_succ, List.set_cons_zero, List.set_cons_succ, List.length_cons, List.length_nil, Int.reduceToNat, Nat.reduceDiv, Nat.reduceMod, Nat.reduceSub, Nat.reduceAdd, Nat.reduceMul, Nat.reduceLT, Nat.reduceLeDiff, Nat.reduceEqDiff, Int.reduceMod, Int.reduceSub, Int.reduceNeg, Int.reduceAdd, Int.reduceMul, Int.reduceLT, Int.reduceLE, Int.reduceEq, put_ss, if_true, if_false, ite_true, ite_false, reduceIte, eq_self, and_true, true_and, and_false, false_and, or_true, true_or, or_false, false_or, not_true_eq_false, not_false_eq_true, l1_i, l1_1, l1_0, l2_0, l2_1, l2_2, l2_3, l3_0, w2_0, w2_1, w2_2, w2_3, d1_0, d1_1, d1_2, d1_3, d2_i, d2_1, d2_0, k5_158_5, k6_161, k35_161, n_161, k5_158_7, k6_163, k35_163, n_163, v1, v2, v3, w32_of, nx]
        · generalize Zb K k.toNat - Zb K p.toNat = o at *
          simp (disch := first | omega | assumption) only [ea_235_0, eb_235_0, ev_0, ev_1, ev_16, ev_17, ev_18, ev_2, ev_3, ev_4, ev_5, ev_6, ev_7, ev_8, ev_9, ev_20, ev_21, ev_22, ev_23, ev_24, ev_25, ev_27, ev_28, ev_30, ev_31, ev_32, ev_33, ev_34, ev_35, ev_36, ev_37, ev_38, ev_39, ev_40, ev_41, ev_42, ev_43, ev_45, ev_46, ev_47, ev_48, ev_49, ev_50, ev_51, ev_52, ev_54, ev_55, ev_57, ev_58, ev_59, k2_0, k2_1, k2_2, k3a, k3b, k4, o1_s, xbin_0, xbin_1, xbin_2, xbin_3, xbin_4, xbin_5, xbin_6, xbin_7, xbin_8, xbin_9, xbin_11, xbin_12, xun_0, xun_1, xun_2, xun_3, xun_4, xun_5, k6a, k8, k8b, k9, k20, k20b_0, k20b_1, k20b_2, k20b_3, k20b_4, k20b_5, k21_0, k21_1, k21_2, k21_3, k21_4, k21_5, k23, k24, k25, k27, k28, k40, nz_1, nz_2, nz_3, k31_0, k31_1, k31_2, k31_3, k32u, k33, k34, k35, k35b, k36, k37, k38, k47, k49, k49b_0, k49b_1, k49b_2, k49b_3, k50_0, k50_s, k51_0, k51_s, k55, k58, k58b, rk_0, rk_1, rk_2, rk_9, rk_3, rk_4, rk_5, sw_n, sw_c, xtb_n, xtb_c, lset_0, lset_2, lset_1, lkm_0, lkm_2, lkm_9, lkm_1, lkm_n, if_some1, c_10, c_01, c_x0, c_1x, c_n0, c_nn, List.getElem?_cons_zero, List.getElem?_cons_succ, List.set_cons_zero, List.set_cons_succ, List.length_cons, List.length_nil, Int.reduceToNat, Nat.reduceDiv, Nat.reduceMod, Nat.reduceSub, Nat.reduceAdd, Nat.reduceMul, Nat.reduceLT, Nat.reduceLeDiff, Nat.reduceEqDiff, Int.reduceMod, Int.reduceSub, Int.reduceNeg, Int.reduceAdd, Int.reduceMul, Int.reduceLT, Int.reduceLE, Int.reduceEq, put_ss, if_true, if_false, ite_true, ite_false, reduceIte, eq_self, and_true, true_and, and_false, false_and, or_true, true_or, or_false, false_or, not_true_eq_false, not_false_eq_true, l1_i, l1_1, l1_0, l2_0, l2_1, l2_2, l2_3, l3_0, w2_0, w2_1, w2_2, w2_3, d1_0, d1_1, d1_2, d1_3, d2_i, d2_1, d2_0, k5_158_5, k6_161, k35_161, n_161, k5_158_7, k6_163, k35_163, n_163, v1, w32_of, nx]
theorem M_235 {V : Int → Int} {t : xT} {dep p q : Int} (hT : ∀ j, 0 ≤ j → j ≤ e → TR (K j) (m 161 j.toNat) (m 163 j.toNat)) (he : e < 3000) (hF : 100000 ≤ F) (hp : 0 ≤ p) (hq : q ≤ e) (h : P K V t 8 dep p q) : Cx F (d + 1) 235 [158, p] (Hp L xs m) = some ([q], Hp L xs m) := by
  obtain ⟨z1, z2⟩ := Zok_t (tsz t + 1) t (by omega) 8 dep p q (by decide) (by decide) hp h
  have z2 := z2 rfl
  have l0 : p < q := by
    obtain ⟨i, a, b, rfl, ho, h30, hv, r, h1, h3, hq2⟩ := inv_8 h
    have := P_le a h1
    omega
  have c1 := L_235 (F := F) (L := L) (xs := xs) (d := d) hT he hp hq z1.2 z2 (q - p).toNat p F (Int.le_refl _) l0 (by omega) (by omega) (by omega)
  have e1 : Zb K p.toNat - Zb K p.toNat = 0 := by omega
  rw [e1] at c1
  simp (disch := first | omega | assumption) only [c_235, tx_235, ev_0, ev_1, ev_16, ev_17, ev_18, ev_2, ev_3, ev_4, ev_5, ev_6, ev_7, ev_8, ev_9, ev_20, ev_21, ev_22, ev_23, ev_24, ev_25, ev_27, ev_28, ev_30, ev_31, ev_32, ev_33, ev_34, ev_35, ev_36, ev_37, ev_38, ev_39, ev_40, ev_41, ev_42, ev_43, ev_45, ev_46, ev_47, ev_48, ev_49, ev_50, ev_51, ev_52, ev_54, ev_55, ev_57, ev_58, ev_59, k2_0, k2_1, k2_2, k3a, k3b, k4, o1_s, xbin_0, xbin_1, xbin_2, xbin_3, xbin_4, xbin_5, xbin_6, xbin_7, xbin_8, xbin_9, xbin_11, xbin_12, xun_0, xun_1, xun_2, xun_3, xun_4, xun_5, k6a, k8, k8b, k9, k20, k20b_0, k20b_1, k20b_2, k20b_3, k20b_4, k20b_5, k21_0, k21_1, k21_2, k21_3, k21_4, k21_5, k23, k24, k25, k27, k28, k40, nz_1, nz_2, nz_3, k31_0, k31_1, k31_2, k31_3, k32u, k33, k34, k35, k35b, k36, k37, k38, k47, k49, k49b_0, k49b_1, k49b_2, k49b_3, k50_0, k50_s, k51_0, k51_s, k55, k58, k58b, rk_0, rk_1, rk_2, rk_9, rk_3, rk_4, rk_5, sw_n, sw_c, xtb_n, xtb_c, lset_0, lset_2, lset_1, lkm_0, lkm_2, lkm_9, lkm_1, lkm_n, if_some1, c_10, c_01, c_x0, c_1x, c_n0, c_nn, List.getElem?_cons_zero, List.getElem?_cons_succ, List.set_cons_zero, List.set_cons_succ, List.length_cons, List.length_nil, Int.reduceToNat, Nat.reduceDiv, Nat.reduceMod, Nat.reduceSub, Nat.reduceAdd, Nat.reduceMul, Nat.reduceLT, Nat.reduceLeDiff, Nat.reduceEqDiff, Int.reduceMod, Int.reduceSub, Int.reduceNeg, Int.reduceAdd, Int.reduceMul, Int.reduceLT, Int.reduceLE, Int.reduceEq, put_ss, if_true, if_false, ite_true, ite_false, reduceIte, eq_self, and_true, true_and, and_false, false_and, or_true, true_or, or_false, false_or, not_true_eq_false, not_false_eq_true, l1_i, l1_1, l1_0, l2_0, l2_1, l2_2, l2_3, l3_0, w2_0, w2_1, w2_2, w2_3, d1_0, d1_1, d1_2, d1_3, d2_i, d2_1, d2_0, c1]
end M235
