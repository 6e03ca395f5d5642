/-! WIRES: settle of the class -/
section Sq1
variable {m m' : Mem} {f i k : Nat} {w : Int}
theorem sb_eq (h : ¬ (f ≤ k ∧ k < f + i) → m' 77 k = m 77 k) : sb f i w m' 77 k = sb f i w m 77 k := by
  unfold sb
  by_cases c : f ≤ k ∧ k < f + i
  · rw [if_pos ⟨rfl, c⟩, if_pos ⟨rfl, c⟩]
  · rw [if_neg (fun z => c z.2), if_neg (fun z => c z.2)]
    exact h c
theorem sb_bt (h : ¬ (f ≤ k ∧ k < f + i) → m 77 k = 0 ∨ m 77 k = 1) : sb f i w m 77 k = 0 ∨ sb f i w m 77 k = 1 := by
  unfold sb
  by_cases c : f ≤ k ∧ k < f + i
  · rw [if_pos ⟨rfl, c⟩]
    have z : iand (ishr w ((k : Int) - f)) 1 = (ishr w ((k : Int) - f)) % 2 := iand_m 1 (by decide) _
    rw [z]
    omega
  · rw [if_neg (fun z => c z.2)]
    exact h c
theorem rgM_eq (h8 : ∀ r, m' 80 r = m 80 r) (h : k < 68 → m' 77 k = m 77 k) : ∀ j, k < 68 + 16 * j → rgM j m' 77 k = rgM j m 77 k
  | 0, hk => h hk
  | j + 1, hk => by
    show sb (68 + 16 * j) 16 (m' 80 j) (rgM j m') 77 k = sb (68 + 16 * j) 16 (m 80 j) (rgM j m) 77 k
    rw [h8 j]
    exact sb_eq (fun n => rgM_eq h8 h j (by omega))
theorem rgM_bt (h : k < 68 → m 77 k = 0 ∨ m 77 k = 1) : ∀ j, k < 68 + 16 * j → rgM j m 77 k = 0 ∨ rgM j m 77 k = 1
  | 0, hk => h hk
  | j + 1, hk => sb_bt (fun n => rgM_bt h j (by omega))
theorem shM_eq (h : ∀ a j, 78 ≤ a → a ≤ 81 → m' a j = m a j) (hk : k < 212) : shM m' 77 k = shM m 77 k := by
  have ed : dat m' = dat m := by
    unfold dat
    rw [h 78 4 (by omega) (by omega), h 78 9 (by omega) (by omega), h 78 8 (by omega) (by omega), h 79 _ (by omega) (by omega), h 81 _ (by omega) (by omega)]
  unfold shM
  rw [ed]
  refine sb_eq (fun n1 => rgM_eq (fun r => ?_) (fun h68 => ?_) 8 (by omega))
  · rw [sh5_o (by decide), sh5_o (by decide), h 80 r (by omega) (by omega)]
  · unfold sh5
    rw [h 78 2 (by omega) (by omega), h 78 3 (by omega) (by omega), h 78 4 (by omega) (by omega), h 78 5 (by omega) (by omega), h 78 6 (by omega) (by omega)]
    refine sb_eq (fun n2 => sb_eq (fun n3 => sb_eq (fun n4 => sb_eq (fun n5 => sb_eq (fun n6 => ?_)))))
    rw [put_ss, put_ss, put_ss, put_ss, if_pos rfl, if_pos rfl, if_pos rfl, if_pos rfl]
    by_cases c : k = 1
    · rw [if_pos c, if_pos c]
    · rw [if_neg c, if_neg c, if_pos (by omega), if_pos (by omega)]
theorem shM_bt (hk : k < 212) : shM m 77 k = 0 ∨ shM m 77 k = 1 := by
  unfold shM
  refine sb_bt (fun n1 => rgM_bt (fun h68 => ?_) 8 (by omega))
  unfold sh5
  refine sb_bt (fun n2 => sb_bt (fun n3 => sb_bt (fun n4 => sb_bt (fun n5 => sb_bt (fun n6 => ?_)))))
  rw [put_ss, put_ss, if_pos rfl, if_pos rfl]
  by_cases c : k = 1
  · rw [if_pos c]
    exact Or.inr rfl
  · rw [if_neg c, if_pos (by omega)]
    exact Or.inl rfl
end Sq1
section Sq2
variable {F L d : Nat} {xs : Nat → Int32} {k : Int}
theorem L_112a {s : Nat → Int} {lf rt : Nat → Int} (hk : k < 4104) (hl : ∀ j : Nat, 0 ≤ lf j ∧ lf j < 4104) (hr : ∀ j : Nat, 0 ≤ rt j ∧ rt j < 4104) (hg : ∀ j : Nat, 212 ≤ j → (j : Int) ≤ k → lf j < j ∧ rt j < j) : ∀ (f : Nat) (m : Mem) (N : Nat), 212 ≤ m 73 6 → m 73 6 + f = k + 1 → f < N → (∀ j, m 74 j = lf j) → (∀ j, m 75 j = rt j) → (∀ j : Nat, m 77 j = 0 ∨ m 77 j = 1) → (∀ j : Nat, (j : Int) < m 73 6 → m 77 j = wzS lf rt s j) → ∃ m', LF F d la_112_0 lb_112_0 lc_112_0 N ([(2, 73), (0, k)], Hp L xs m) = some (0, [], ([(2, 73), (0, k)], Hp L xs m')) ∧ m' 73 6 = k + 1 ∧ (∀ a j, a ≠ 77 → (a = 73 → j ≠ 6) → m' a j = m a j) ∧ (∀ j : Nat, m' 77 j = 0 ∨ m' 77 j = 1) ∧ ∀ j : Nat, (j : Int) < k + 1 → m' 77 j = wzS lf rt s j := by
  intro f
  induction f with
  | zero =>
    intro m N h0 h1 hN h4 h5 hv hw
    obtain ⟨N, rfl⟩ : ∃ n, N = n + 1 := ⟨N - 1, by omega⟩
    exact ⟨m, L_112e (by omega), by omega, fun _ _ _ _ => rfl, hv, fun j hj => hw j (by omega)⟩
  | succ f ih =>
    intro m N h0 h1 hN h4 h5 hv hw
    obtain ⟨N, rfl⟩ : ∃ n, N = n + 1 := ⟨N - 1, by omega⟩
    obtain ⟨q, hq⟩ : ∃ q : Nat, m 73 6 = ((212 + q : Nat) : Int) := ⟨(m 73 6).toNat - 212, by omega⟩
    have b := iand_bb (hv (m 74 (m 73 6).toNat).toNat) (hv (m 75 (m 73 6).toNat).toNat)
    have c1 := L_112 (F := F) (L := L) (xs := xs) (d := d) (N := N) (m := m) (k := k) (by omega) hk (fun j => by rw [h4]; exact hl j) (fun j => by rw [h5]; exact hr j) hv
    have e7 : ∀ j, st1 m 77 j = if j = (m 73 6).toNat then 1 - iand (m 77 (m 74 (m 73 6).toNat).toNat) (m 77 (m 75 (m 73 6).toNat).toNat) else m 77 j := fun j => rfl
    have e6 : st1 m 73 6 = m 73 6 + 1 := rfl
    have fr : ∀ a j, a ≠ 77 → (a = 73 → j ≠ 6) → st1 m a j = m a j := fun a j g1 g2 => by
      unfold st1
      rw [put_ne g2, put_ne (fun z => absurd z g1)]
    obtain ⟨m', c2, n2, f2, b2, v2⟩ := ih (st1 m) N (by omega) (by omega) (by omega) (fun j => by rw [fr 74 j (by decide) (by omega)]; exact h4 j) (fun j => by rw [fr 75 j (by decide) (by omega)]; exact h5 j) (fun j => by
      rw [e7]
      by_cases c : j = (m 73 6).toNat
      · rw [if_pos c]
        omega
      · rw [if_neg c]
        exact hv j) (fun j hj => by
      rw [e7]
      by_cases c : j = (m 73 6).toNat
      · rw [if_pos c]
        have hj2 : j = 212 + q := by omega
        have g := hg (212 + q) (by omega) (by omega)
        have l1 := hl (212 + q)
        have r1 := hr (212 + q)
        have et : (m 73 6).toNat = 212 + q := by omega
        rw [hj2, wzS_g (by omega) (by omega) (by omega), et, h4, h5, hw _ (by omega), hw _ (by omega)]
      · rw [if_neg c]
        exact hw j (by omega))
    refine ⟨m', c1.trans c2, n2, fun a j g1 g2 => ?_, b2, v2⟩
    rw [f2 a j g1 g2, fr a j g1 g2]
end Sq2
