/-! WIRES: wire of the model, whole -/
section Mw3
variable {F L d : Nat} {xs : Nat → Int32} {m : Mem} {x : Int}
theorem mb_bt {M : Mem} {f i k : Nat} {w : Int} (h : M 216 k = 0 ∨ M 216 k = 1) : mb f i w M 216 k = 0 ∨ mb f i w M 216 k = 1 := by
  unfold mb
  by_cases c : f ≤ k ∧ k < f + i
  · rw [if_pos ⟨rfl, c⟩]
    have z : iand (ishr w ((k : Int) - f)) 1 = (ishr w ((k : Int) - f)) % 2 := iand_m 1 (by decide) _
    rw [z]
    omega
  · rw [if_neg (fun z => c z.2)]
    exact h
theorem rgW_bt {M : Mem} {k : Nat} (h : M 216 k = 0 ∨ M 216 k = 1) : ∀ j, rgW j M 216 k = 0 ∨ rgW j M 216 k = 1
  | 0 => h
  | j + 1 => mb_bt (rgW_bt h j)
theorem put_bt {M : Mem} {q k : Nat} {v : Int} (hv : v = 0 ∨ v = 1) (h : M 216 k = 0 ∨ M 216 k = 1) : put M 216 q v 216 k = 0 ∨ put M 216 q v 216 k = 1 := by
  rw [put_ss, if_pos rfl]
  split
  · exact hv
  · exact h
theorem M_330 (hF : 100000 ≤ F) (h : wmG m m = m) (W : WM m) (h0 : m 216 0 = 0) (hb : ∀ j : Nat, m 216 j = 0 ∨ m 216 j = 1) (hx : 0 ≤ x ∧ x < m 158 86) (hn : m 158 86 ≤ 4104) (hl : ∀ j : Nat, (0 ≤ m 201 j ∧ m 201 j < 4104) ∧ 0 ≤ m 202 j ∧ m 202 j < 4104) (hg : ∀ j : Nat, 212 ≤ j → (j : Int) < m 158 86 → m 201 j < j ∧ m 202 j < j) : ∃ m', Cx F (d + 4) 330 [158, x] (Hp L xs m) = some ([wzS (m 201) (m 202) (svM m) x.toNat], Hp L xs m') ∧ (∀ a j, a ≠ 216 → m' a j = m a j) ∧ (∀ j : Nat, m' 216 j = 0 ∨ m' 216 j = 1) ∧ m' 216 0 = 0 := by
  have z : iand (m 158 99) 1 = (m 158 99) % 2 := iand_m 1 (by decide) _
  have hv : iand (m 158 99) 1 = 0 ∧ iand (m 158 99) 1 = 0 ∨ iand (m 158 99) 1 = 1 ∧ iand (m 158 99) 1 = 1 := by omega
  have hu : ¬ 1 < m 158 99 ∧ (if 1 < m 158 99 then (1 : Int) else 0) = 0 ∨ 1 < m 158 99 ∧ (if 1 < m 158 99 then (1 : Int) else 0) = 1 := by
    by_cases c : 1 < m 158 99
    · exact Or.inr ⟨c, if_pos c⟩
    · exact Or.inl ⟨c, if_neg c⟩
  have fr : ∀ a j, a ≠ 216 → whM m a j = m a j := fun a j c => by
    unfold whM
    rw [mb_o c, rgW_o c, w5M_o c]
  have wb : ∀ j : Nat, whM m 216 j = 0 ∨ whM m 216 j = 1 := fun j => mb_bt (rgW_bt (put_bt (by omega) (put_bt (by omega) (mb_bt (mb_bt (mb_bt (mb_bt (put_bt (by omega) (hb j)))))))) 8)
  have w0 : whM m 216 0 = 0 := by
    rw [wh_sv h W h0 (by omega)]
    have := wh_sv (k := 0) h W h0 (by omega)
    have s0 : svM m 0 = 0 := by
      unfold svM
      rw [if_pos (by omega)]
      rfl
    exact s0
  by_cases c : x < 212
  · obtain ⟨N, rfl⟩ : ∃ N, F = N + 1 := ⟨F - 1, by omega⟩
    have lg := L_330e (F := N + 1) (L := L) (xs := xs) (d := d + 3) (N := N) (m := whM m) (x := x) (j := 212) (by omega)
    have r := M_330v (m' := whM m) hF h W hx hn hv hu lg (wb _)
    rw [wh_sv h W h0 (by omega)] at r
    exact ⟨whM m, by rw [wzS_0 (by omega)]; exact r, fr, wb, w0⟩
  · obtain ⟨m', lg, f2, b2, z2, v2⟩ := L_330a (F := F) (L := L) (xs := xs) (d := d + 3) (x := x) (s := svM m) (lf := m 201) (rt := m 202) (by omega) (fun j => (hl j).1) (fun j => (hl j).2) (fun j g1 g2 => hg j g1 (by omega)) (x + 1 - 212).toNat (whM m) 212 F (by omega) (by omega) (by omega) (fun j => fr 201 j (by decide)) (fun j => fr 202 j (by decide)) wb (fun i hi => by rw [wh_sv h W h0 hi, wzS_0 hi])
    have r := M_330v (m' := m') hF h W hx hn hv hu lg (b2 _)
    rw [v2 x.toNat (by omega)] at r
    exact ⟨m', r, fun a j c => (f2 a j c).trans (fr a j c), b2, z2.trans w0⟩
end Mw3
