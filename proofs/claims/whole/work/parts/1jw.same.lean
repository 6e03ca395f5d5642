/-! WIRES: both show the same -/
section Sm1
variable {m M M' : Mem} {f i k : Nat} {w : Int}
theorem sb_mb (h : ¬ (f ≤ k ∧ k < f + i) → M' 216 k = M 77 k) : mb f i w M' 216 k = sb f i w M 77 k := by
  unfold mb sb
  by_cases c : f ≤ k ∧ k < f + i
  · rw [if_pos ⟨rfl, c⟩, if_pos ⟨rfl, c⟩]
  · rw [if_neg (fun z => c z.2), if_neg (fun z => c z.2)]
    exact h c
theorem rg_mb (h8 : ∀ r, r < 8 → M' 207 r = M 80 r) (h : k < 68 → M' 216 k = M 77 k) : ∀ j, j ≤ 8 → k < 68 + 16 * j → rgW j M' 216 k = rgM j M 77 k
  | 0, _, hk => h hk
  | j + 1, hj, hk => by
    show mb (68 + 16 * j) 16 (M' 207 j) (rgW j M') 216 k = sb (68 + 16 * j) 16 (M 80 j) (rgM j M) 77 k
    rw [h8 j (by omega)]
    exact sb_mb (fun n => rg_mb h8 h j (by omega) (by omega))
theorem st_66 {s : Int} (h : 0 ≤ s ∧ s ≤ 3) : iand (ishr s (((66 : Nat) : Int) - ((66 : Nat) : Int))) 1 = iand s 1 ∧ iand (ishr s (((67 : Nat) : Int) - ((66 : Nat) : Int))) 1 = if 1 < s then 1 else 0 := by
  have c : s = 0 ∨ s = 1 ∨ s = 2 ∨ s = 3 := by omega
  rcases c with rfl | rfl | rfl | rfl <;> decide
theorem wh_sv (h : wmG m m = m) (W : WM m) (h0 : m 216 0 = 0) (hk : k < 212) : whM m 216 k = svM m k := by
  have e95 : m 158 95 = m 78 2 := by rw [← congrFun (congrFun h 158) 95]; rfl
  have e96 : m 158 96 = m 78 3 := by rw [← congrFun (congrFun h 158) 96]; rfl
  have e97 : m 158 97 = m 78 4 := by rw [← congrFun (congrFun h 158) 97]; rfl
  have e98 : m 158 98 = m 78 5 := by rw [← congrFun (congrFun h 158) 98]; rfl
  have e99 : m 158 99 = m 78 6 := by rw [← congrFun (congrFun h 158) 99]; rfl
  have e80 : ∀ r, m 207 r = m 80 r := fun r => by rw [← congrFun (congrFun h 207) r]; rfl
  have b6 : 0 ≤ m 78 6 ∧ m 78 6 ≤ 3 := W.2.2.2.2.1
  have s6 := st_66 b6
  unfold svM
  rw [if_pos hk]
  unfold whM shM
  refine sb_mb (fun n1 => rg_mb (fun r _ => ?_) (fun h68 => ?_) 8 (by omega) (by omega))
  · rw [w5M_o (by omega), sh5_o (by omega), e80]
  · rw [e99]
    unfold w5M sh5
    rw [e95, e96, e97, e98]
    by_cases c7 : k = 67
    · subst c7
      rw [put_ss, if_pos rfl, if_pos rfl, ← s6.2]
      unfold sb
      exact (if_pos (by omega)).symm
    rw [put_ne (by omega)]
    by_cases c6 : k = 66
    · subst c6
      rw [put_ss, if_pos rfl, if_pos rfl]
      unfold sb
      rw [if_pos (by omega)]
      exact s6.1.symm
    rw [put_ne (by omega)]
    have z : ∀ X : Mem, sb 66 2 (m 78 6) X 77 k = X 77 k := fun X => by
      unfold sb
      rw [if_neg (by omega)]
    rw [z]
    refine sb_mb (fun n2 => sb_mb (fun n3 => sb_mb (fun n4 => sb_mb (fun n5 => ?_))))
    rw [put_ss, put_ss, put_ss, if_pos rfl, if_pos rfl, if_pos rfl]
    by_cases c : k = 1
    · rw [if_pos c, if_pos c]
    · have c0 : k = 0 := by omega
      rw [if_neg c, if_neg c, if_pos c0, c0, h0]
end Sm1
