/-! THE HEAD IN THE WRITING TURN -/
theorem jN_0 {P : Int → Int} : ∀ (l : List It) (A g j : Int), ngo l = 0 → jN P l A g j = j
  | [], A, g, j => fun _ => rfl
  | i :: l, A, g, j => fun h => by
    have h2 : (if isG i then 1 else 0) + ngo l = 0 := h
    have hg : ¬ isG i := fun w => by
      rw [if_pos w] at h2
      omega
    rw [if_neg hg] at h2
    have ej : jN P (i :: l) A g j = jN P l (A + 1) (if isG i then g + 1 else g) (if i.2.1 = 1 ∧ outR (P i.2.2) A then ior j (ishl 1 g) else j) := rfl
    rw [ej, if_neg hg, if_neg (fun w : i.2.1 = 1 ∧ outR (P i.2.2) A => hg (Or.inl w.1))]
    exact jN_0 l _ _ j (by omega)
theorem cX_0 {P : Int → Int} {l : List It} {A : Int} (h : ngo l = 0) : cX P l A = false := by
  cases e : cX P l A with
  | false => rfl
  | true =>
    obtain ⟨g, a, _⟩ := (cX_go (P := P) l A).mp e
    omega
theorem hd_W {P N : Int → Int} {cur : Nat} {e g : Int} {J W : Nat → Int} : ∃ W2, cI 1 P N cur (hdI e) (0, g, 0, J, W) = (82, g, 0, J, W2) ∧ WdOk P N W2 (hdI e) 0 ∧ (∀ k : Nat, 82 ≤ k → W2 k = W k) := by
  obtain ⟨W2, a, b, c⟩ := cI_1 (P := P) (N := N) (cur := cur) (hdI e) (0, g, 0, J, W) (Int.le_refl 0) (by rw [hdI_l]; show (0 : Int) + ((82 : Nat) : Int) ≤ 6000; omega)
  refine ⟨W2, ?_, b, fun k hk => c k (Or.inr ?_)⟩
  · rw [a, cX_0 hdI_g.1, jN_0 _ _ _ _ hdI_g.1, hdI_l, hdI_g.1]
    have ev : vput J cur (J cur) = J := by
      funext k
      unfold vput
      split
      · next h => rw [h]
      · rfl
    show ((0 : Int) + ((82 : Nat) : Int), g + ((0 : Nat) : Int), (if false = true then (1 : Int) else 0), vput J cur (J cur), W2) = _
    rw [ev, show g + ((0 : Nat) : Int) = g from Int.add_zero g]
    rfl
  · rw [hdI_l]
    show (0 : Int) + ((82 : Nat) : Int) ≤ (k : Int)
    omega
