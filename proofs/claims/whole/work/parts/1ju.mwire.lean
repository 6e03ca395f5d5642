/-! WIRES: wire of the model -/
section Mw1
variable {F L d : Nat} {xs : Nat → Int32} {x : Int}
theorem L_330a {s : Nat → Int} {lf rt : Nat → Int} (hx : x < 4104) (hl : ∀ j : Nat, 0 ≤ lf j ∧ lf j < 4104) (hr : ∀ j : Nat, 0 ≤ rt j ∧ rt j < 4104) (hg : ∀ j : Nat, 212 ≤ j → (j : Int) ≤ x → lf j < j ∧ rt j < j) : ∀ (f : Nat) (m : Mem) (j N : Nat), 212 ≤ j → (j : Int) + f = x + 1 → f < N → (∀ j, m 201 j = lf j) → (∀ j, m 202 j = rt j) → (∀ j : Nat, m 216 j = 0 ∨ m 216 j = 1) → (∀ i : Nat, i < j → m 216 i = wzS lf rt s i) → ∃ m', LF F d la_330_1 lb_330_1 lc_330_1 N ([(2, 158), (0, x), (0, (j : Int))], Hp L xs m) = some (0, [], ([(2, 158), (0, x), (0, x + 1)], Hp L xs m')) ∧ (∀ a j, a ≠ 216 → m' a j = m a j) ∧ (∀ j : Nat, m' 216 j = 0 ∨ m' 216 j = 1) ∧ (m' 216 0 = m 216 0) ∧ ∀ i : Nat, (i : Int) < x + 1 → m' 216 i = wzS lf rt s i := by
  intro f
  induction f with
  | zero =>
    intro m j N h0 h1 hN h4 h5 hv hw
    obtain ⟨N, rfl⟩ : ∃ n, N = n + 1 := ⟨N - 1, by omega⟩
    have hj : (j : Int) = x + 1 := by omega
    refine ⟨m, ?_, fun _ _ _ => rfl, hv, rfl, fun i hi => hw i (by omega)⟩
    rw [hj]
    exact L_330e (by omega)
  | succ f ih =>
    intro m j N h0 h1 hN h4 h5 hv hw
    obtain ⟨N, rfl⟩ : ∃ n, N = n + 1 := ⟨N - 1, by omega⟩
    obtain ⟨q, rfl⟩ : ∃ q : Nat, j = 212 + q := ⟨j - 212, by omega⟩
    have b := iand_bb (hv (m 201 (212 + q)).toNat) (hv (m 202 (212 + q)).toNat)
    have c1 := L_330g (F := F) (L := L) (xs := xs) (d := d) (N := N) (m := m) (x := x) (j := 212 + q) (by omega) hx (by rw [h4]; exact hl _) (by rw [h5]; exact hr _) hv
    generalize hM : put m 216 (212 + q) (1 - iand (m 216 (m 201 (212 + q)).toNat) (m 216 (m 202 (212 + q)).toNat)) = M at c1
    have e7 : ∀ i, M 216 i = if i = 212 + q then 1 - iand (m 216 (m 201 (212 + q)).toNat) (m 216 (m 202 (212 + q)).toNat) else m 216 i := fun i => by rw [← hM]; rfl
    have fr : ∀ a i, a ≠ 216 → M a i = m a i := fun a i h => by
      rw [← hM, put_ne (fun z => absurd z h)]
    obtain ⟨m', c2, f2, b2, z2, v2⟩ := ih M (212 + q + 1) N (by omega) (by omega) (by omega) (fun j => by rw [fr 201 j (by decide)]; exact h4 j) (fun j => by rw [fr 202 j (by decide)]; exact h5 j) (fun i => by
      rw [e7]
      by_cases c : i = 212 + q
      · rw [if_pos c]
        omega
      · rw [if_neg c]
        exact hv i) (fun i hi => by
      rw [e7]
      by_cases c : i = 212 + q
      · rw [if_pos c]
        have g := hg (212 + q) (by omega) (by omega)
        have l1 := hl (212 + q)
        have r1 := hr (212 + q)
        rw [c, wzS_g (by omega) (by omega) (by omega), h4, h5, hw _ (by omega), hw _ (by omega)]
      · rw [if_neg c]
        exact hw i (by omega))
    refine ⟨m', c1.trans c2, fun a i h => ?_, b2, ?_, v2⟩
    · rw [f2 a i h, fr a i h]
    · rw [z2, e7, if_neg (by omega)]
/-- what the model shows -/
def w5M (m : Mem) (v u : Int) : Mem := put (put (mb 50 16 (m 158 98) (mb 34 16 (m 158 97) (mb 18 16 (m 158 96) (mb 2 16 (m 158 95) (put m 216 1 1))))) 216 66 v) 216 67 u
def whM (m : Mem) : Mem := mb 196 16 (dat m) (rgW 8 (w5M m (iand (m 158 99) 1) (if 1 < m 158 99 then 1 else 0)))
theorem wm_p {V M M' : Mem} {c e : Int} {a k : Nat} (h : M a k = M' a k) : wm V c e M a k = wm V c e M' a k := by
  unfold wm
  rw [h]
theorem wmG_216 {m M : Mem} (h : wmG m m = m) (hM : ∀ a k, a ≠ 216 → M a k = m a k) : wmG m M = M := by
  funext a k
  by_cases c : a = 216
  · subst c
    rfl
  · have z : wmG m M a k = wmG m m a k := wm_p (hM a k c)
    rw [z, h, hM a k c]
theorem w5M_o {m : Mem} {v u : Int} {a k : Nat} (h : a ≠ 216) : w5M m v u a k = m a k := by
  unfold w5M
  rw [put_ne (fun z => absurd z h), put_ne (fun z => absurd z h), mb_o h, mb_o h, mb_o h, mb_o h, put_ne (fun z => absurd z h)]
theorem M_329d {m : Mem} {v u : Int} (hF : 100000 ≤ F) (h : wmG m m = m) (W : WM m) : Cx F (d + 2) 307 [158] (Hp L xs (rgW 8 (w5M m v u))) = some ([dat m], Hp L xs (rgW 8 (w5M m v u))) := by
  have e := wmG_216 (M := rgW 8 (w5M m v u)) h (fun a k c => (rgW_o c 8).trans (w5M_o c))
  have z := M_307 (F := F) (L := L) (xs := xs) (d := d) (V := sgO m) (c := m 78 12) (e := m 78 13) (m := rgW 8 (w5M m v u)) W
  have e2 : wm (sgO m) (m 78 12) (m 78 13) (rgW 8 (w5M m v u)) = rgW 8 (w5M m v u) := e
  rw [e2] at z
  exact z
end Mw1
