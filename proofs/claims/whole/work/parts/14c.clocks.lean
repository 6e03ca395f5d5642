/-! CLOCKS IN A ROW -/
def cnt (m : Mem) : Mem := put (put m 78 13 (m 78 13 + 1)) 78 12 (m 78 12 + 1)
def stp (m : Mem) : Mem := cnt (tik id m)
abbrev hlt (m : Mem) : Prop := m 78 6 = 1 ∧ m 78 3 / 4096 = 15
abbrev stopd (m : Mem) : Prop := 1000000 ≤ m 78 13 ∨ hlt m
def adv : Nat → Mem → Nat × Mem
  | 0, m => (0, m)
  | n + 1, m => if stopd m then (0, m) else ((adv n (stp m)).1 + 1, (adv n (stp m)).2)
section WMp
variable {m : Mem} {j : Nat} {v : Int}
theorem WM_2 (h : 0 ≤ v ∧ v < 65536) (W : WM m) : WM (put m 78 2 v) := by
  obtain ⟨w2, w3, w4, w5, w6, w9, w11, w79, w80, w81⟩ := W
  exact ⟨h, w3, w4, w5, w6, w9, w11, w79, w80, w81⟩
theorem WM_3 (h : 0 ≤ v ∧ v < 65536) (W : WM m) : WM (put m 78 3 v) := by
  obtain ⟨w2, w3, w4, w5, w6, w9, w11, w79, w80, w81⟩ := W
  exact ⟨w2, h, w4, w5, w6, w9, w11, w79, w80, w81⟩
theorem WM_4 (h : 0 ≤ v ∧ v < 65536) (W : WM m) : WM (put m 78 4 v) := by
  obtain ⟨w2, w3, w4, w5, w6, w9, w11, w79, w80, w81⟩ := W
  exact ⟨w2, w3, h, w5, w6, w9, w11, w79, w80, w81⟩
theorem WM_5 (h : 0 ≤ v ∧ v < 65536) (W : WM m) : WM (put m 78 5 v) := by
  obtain ⟨w2, w3, w4, w5, w6, w9, w11, w79, w80, w81⟩ := W
  exact ⟨w2, w3, w4, h, w6, w9, w11, w79, w80, w81⟩
theorem WM_6 (h : 0 ≤ v ∧ v ≤ 3) (W : WM m) : WM (put m 78 6 v) := by
  obtain ⟨w2, w3, w4, w5, w6, w9, w11, w79, w80, w81⟩ := W
  exact ⟨w2, w3, w4, w5, h, w9, w11, w79, w80, w81⟩
theorem WM_11 (h : 0 ≤ v ∧ v ≤ 1000000000) (W : WM m) : WM (put m 78 11 v) := by
  obtain ⟨w2, w3, w4, w5, w6, w9, w11, w79, w80, w81⟩ := W
  exact ⟨w2, w3, w4, w5, w6, w9, h, w79, w80, w81⟩
theorem WM_9 (h : 0 ≤ v ∧ v ≤ m 78 8) (W : WM m) : WM (put m 78 9 v) := by
  obtain ⟨w2, w3, w4, w5, w6, w9, w11, w79, w80, w81⟩ := W
  exact ⟨w2, w3, w4, w5, w6, ⟨h.1, h.2, w9.2.2⟩, w11, w79, w80, w81⟩
theorem WM_12 (W : WM m) : WM (put m 78 12 v) := W
theorem WM_13 (W : WM m) : WM (put m 78 13 v) := W
theorem WM_82 (W : WM m) : WM (put m 82 j v) := W
theorem WM_79 (h : 0 ≤ v ∧ v < 65536) (W : WM m) : WM (put m 79 j v) := by
  obtain ⟨w2, w3, w4, w5, w6, w9, w11, w79, w80, w81⟩ := W
  have key : ∀ k, (0 ≤ m 79 k ∧ m 79 k < 65536) → 0 ≤ put m 79 j v 79 k ∧ put m 79 j v 79 k < 65536 := fun k hk => by
    rw [put_ss, if_pos rfl]
    split
    · exact h
    · exact hk
  exact ⟨w2, w3, w4, w5, w6, w9, w11, fun k hk => key k (w79 k hk), w80, w81⟩
theorem WM_80 (h : 0 ≤ v ∧ v < 65536) (W : WM m) : WM (put m 80 j v) := by
  obtain ⟨w2, w3, w4, w5, w6, w9, w11, w79, w80, w81⟩ := W
  have key : ∀ k, (0 ≤ m 80 k ∧ m 80 k < 65536) → 0 ≤ put m 80 j v 80 k ∧ put m 80 j v 80 k < 65536 := fun k hk => by
    rw [put_ss, if_pos rfl]
    split
    · exact h
    · exact hk
  exact ⟨w2, w3, w4, w5, w6, w9, w11, w79, fun k hk => key k (w80 k hk), w81⟩
theorem WM_81 (h : 0 ≤ v ∧ v < 65536) (W : WM m) : WM (put m 81 j v) := by
  obtain ⟨w2, w3, w4, w5, w6, w9, w11, w79, w80, w81⟩ := W
  have key : ∀ k, (0 ≤ m 81 k ∧ m 81 k < 65536) → 0 ≤ put m 81 j v 81 k ∧ put m 81 j v 81 k < 65536 := fun k hk => by
    rw [put_ss, if_pos rfl]
    split
    · exact h
    · exact hk
  exact ⟨w2, w3, w4, w5, w6, w9, w11, w79, w80, fun k hk => key k (w81 k hk)⟩
theorem dat_r (W : WM m) : 0 ≤ dat m ∧ dat m < 65536 := by
  obtain ⟨w2, w3, w4, w5, w6, w9, w11, w79, w80, w81⟩ := W
  unfold dat
  split
  · exact w79 _ (by omega)
  · split
    · split
      · exact w81 _ (by omega)
      · omega
    · split <;> omega
theorem res_r {op ir a b d : Int} (ha : 0 ≤ a ∧ a < 65536) (hb : 0 ≤ b ∧ b < 65536) : 0 ≤ res op ir a b d ∧ res op ir a b d < 65536 := by
  unfold res
  split
  · omega
  split
  · omega
  split
  · exact iand_b ha hb
  split
  · exact ixor_b ha hb
  split
  · split <;> omega
  split
  · omega
  split
  · omega
  split
  · have k1 : ishl (ir % 256) 8 = w32 (ir % 256 * 256) := ishl_k 8 (by decide) _
    rw [w32_of (by omega) (by omega)] at k1
    exact ior_b (by omega) (by omega)
  · omega
theorem WM_nx (W : WM m) : WM (nx m) := WM_6 (by omega) (WM_4 (by exact W.1) W)
theorem WM_act (W : WM m) : WM (act m) := by
  have w2 := W.1
  have w3 := W.2.1
  have w80 : ∀ k, k < 8 → 0 ≤ m 80 k ∧ m 80 k < 65536 := W.2.2.2.2.2.2.2.2.1
  have r1 := w80 (m 78 3 / 512 % 8).toNat (by omega)
  have r2 := w80 (m 78 3 / 64 % 8).toNat (by omega)
  have r3 := w80 (m 78 3 / 8 % 8).toNat (by omega)
  unfold act
  split
  · exact WM_6 (by omega) (WM_4 (by omega) W)
  split
  · exact WM_5 r1 (WM_6 (by omega) (WM_4 (by omega) W))
  split
  · exact WM_nx (WM_80 (res_r r2 r3) W)
  split
  · split
    · exact WM_nx (WM_2 (by omega) W)
    · exact WM_nx W
  split
  · split
    · exact WM_nx (WM_2 (by omega) W)
    · exact WM_nx W
  split
  · exact WM_nx (WM_2 r2 (WM_80 w2 W))
  split
  · exact WM_nx (WM_2 (by omega) W)
  · exact WM_6 (by omega) (WM_4 w2 W)
theorem WM_tik {fo : Int → Int} (W : WM m) (h : m 78 11 < 1000000000) : WM (tik fo m) := by
  have W' := W
  obtain ⟨w2, w3, w4, w5, w6, w9, w11, w79, w80, w81⟩ := W'
  have hd := dat_r W
  unfold tik
  split
  · exact WM_6 (by omega) (WM_2 (by omega) (WM_3 hd W))
  split
  · exact WM_act W
  split
  · apply WM_nx
    unfold tkn
    have W2 := WM_80 (j := (m 78 3 / 512 % 8).toNat) hd W
    split
    · rename_i hh
      have e1 : put m 80 (m 78 3 / 512 % 8).toNat (dat m) 78 9 = m 78 9 := rfl
      have e2 : put m 80 (m 78 3 / 512 % 8).toNat (dat m) 78 8 = m 78 8 := rfl
      rw [e1, e2] at hh
      exact WM_9 (by rw [e1, e2]; omega) W2
    · exact W2
  · apply WM_nx
    unfold giv
    split
    · exact WM_79 w5 W
    split
    · split
      · exact WM_11 (by omega) (WM_82 W)
      · exact WM_11 (by omega) W
    · exact W
/-- what a clock leaves as it was -/
theorem tik_k {fo : Int → Int} (a k : Nat) (h1 : a ≠ 78) (h2 : a ≠ 79) (h3 : a ≠ 80) (h4 : a ≠ 82) : tik fo m a k = m a k := by
  simp only [tik, act, nx, tkn, giv]
  repeat' split
  all_goals first | rfl | simp only [put_ss, h1, h2, h3, h4, if_false]
theorem tik_f {fo : Int → Int} (k : Nat) (h : k = 8 ∨ k = 12 ∨ k = 13) : tik fo m 78 k = m 78 k := by
  rcases h with z | z | z <;> subst z <;> simp only [tik, act, nx, tkn, giv] <;> (repeat' split) <;> rfl
theorem tik_o {fo : Int → Int} : tik fo m 78 11 = m 78 11 ∨ tik fo m 78 11 = m 78 11 + 1 := by
  simp only [tik, act, nx, tkn, giv]
  repeat' split
  all_goals first | (left; rfl) | (right; rfl)
end WMp
