/-! THE CLASS WRITES a list of items: words, bits of goes, whether it changed -/
/-- the bits behind the items at A, from go g on -/
def jN (P : Int → Int) : List It → Int → Int → Int → Int
  | [], _, _, J => J
  | i :: l, A, g, J => jN P l (A + 1) (if isG i then g + 1 else g) (if i.2.1 = 1 ∧ outR (P i.2.2) A then ior J (ishl 1 g) else J)
/-- some short go does not reach -/
def cX (P : Int → Int) : List It → Int → Bool
  | [], _ => false
  | i :: l, A => decide (i.2.1 = 1 ∧ outR (P i.2.2) A) || cX P l (A + 1)
/-- the words W at A are those of the items -/
def WdOk (P N : Int → Int) (W : Nat → Int) : List It → Int → Prop
  | [], _ => True
  | i :: l, A => W A.toNat = finW P N A i ∧ WdOk P N W l (A + 1)
theorem cX_app {P : Int → Int} : ∀ (l1 l2 : List It) (A : Int), cX P (l1 ++ l2) A = (cX P l1 A || cX P l2 (A + l1.length))
  | [], l2, A => by
    show cX P l2 A = (false || cX P l2 (A + 0))
    rw [Int.add_zero, Bool.false_or]
  | i :: l1, l2, A => by
    have e0 : A + 1 + (l1.length : Int) = A + (((i :: l1).length : Nat) : Int) := by
      show A + 1 + (l1.length : Int) = A + ((l1.length + 1 : Nat) : Int)
      omega
    show (decide (i.2.1 = 1 ∧ outR (P i.2.2) A) || cX P (l1 ++ l2) (A + 1)) = (decide (i.2.1 = 1 ∧ outR (P i.2.2) A) || cX P l1 (A + 1) || cX P l2 (A + (((i :: l1).length : Nat) : Int)))
    rw [cX_app l1 l2, e0, Bool.or_assoc]
theorem WdOk_app {P N : Int → Int} {W : Nat → Int} : ∀ (l1 l2 : List It) (A : Int), WdOk P N W (l1 ++ l2) A ↔ (WdOk P N W l1 A ∧ WdOk P N W l2 (A + l1.length))
  | [], l2, A => by
    show WdOk P N W l2 A ↔ (True ∧ WdOk P N W l2 (A + 0))
    rw [Int.add_zero, true_and]
  | i :: l1, l2, A => by
    have e0 : A + 1 + (l1.length : Int) = A + (((i :: l1).length : Nat) : Int) := by
      show A + 1 + (l1.length : Int) = A + ((l1.length + 1 : Nat) : Int)
      omega
    show (W A.toNat = finW P N A i ∧ WdOk P N W (l1 ++ l2) (A + 1)) ↔ ((W A.toNat = finW P N A i ∧ WdOk P N W l1 (A + 1)) ∧ WdOk P N W l2 (A + (((i :: l1).length : Nat) : Int)))
    rw [WdOk_app l1 l2, e0, and_assoc]
theorem WdOk_fr {P N : Int → Int} {W W2 : Nat → Int} : ∀ (l : List It) (A : Int), 0 ≤ A → (∀ k : Nat, A ≤ k → (k : Int) < A + l.length → W2 k = W k) → WdOk P N W l A → WdOk P N W2 l A
  | [], A => fun _ _ _ => trivial
  | i :: l, A => fun h0 hk h => by
    have e0 : (((i :: l).length : Nat) : Int) = (l.length : Int) + 1 := rfl
    rw [e0] at hk
    exact ⟨(hk A.toNat (by omega) (by omega)).trans h.1, WdOk_fr l (A + 1) (by omega) (fun k a b => hk k (by omega) (by omega)) h.2⟩
theorem cI_1 {P N : Int → Int} {cur : Nat} : ∀ (l : List It) (S : lS), 0 ≤ S.1 → S.1 + l.length ≤ 6000 → ∃ W, cI 1 P N cur l S = (S.1 + l.length, S.2.1 + ngo l, (if cX P l S.1 = true then 1 else S.2.2.1), vput S.2.2.2.1 cur (jN P l S.1 S.2.1 (S.2.2.2.1 cur)), W) ∧ WdOk P N W l S.1 ∧ (∀ k : Nat, ((k : Int) < S.1 ∨ S.1 + l.length ≤ k) → W k = S.2.2.2.2 k)
  | [], S => fun _ _ => by
    refine ⟨S.2.2.2.2, ?_, trivial, fun _ _ => rfl⟩
    show S = (S.1 + 0, S.2.1 + 0, S.2.2.1, vput S.2.2.2.1 cur (S.2.2.2.1 cur), S.2.2.2.2)
    have e : vput S.2.2.2.1 cur (S.2.2.2.1 cur) = S.2.2.2.1 := by
      funext k
      unfold vput
      split
      · next h => rw [h]
      · rfl
    rw [Int.add_zero, Int.add_zero, e]
  | i :: l, S => fun h0 h1 => by
    have el : (((i :: l).length : Nat) : Int) = (l.length : Int) + 1 := rfl
    rw [el] at h1
    have eS1 : cOne 1 P N cur i S = (S.1 + 1, (if isG i then S.2.1 + 1 else S.2.1), (if i.2.1 = 1 ∧ outR (P i.2.2) S.1 then 1 else S.2.2.1), (if i.2.1 = 1 ∧ outR (P i.2.2) S.1 then vput S.2.2.2.1 cur (ior (S.2.2.2.1 cur) (ishl 1 S.2.1)) else S.2.2.2.1), vput S.2.2.2.2 S.1.toNat (finW P N S.1 i)) := by
      unfold cOne
      simp only [true_and]
      rw [if_pos (show S.1 < 6000 by omega)]
    obtain ⟨W, e, hw, hf⟩ := cI_1 l (cOne 1 P N cur i S) (by rw [eS1]; show 0 ≤ S.1 + 1; omega) (by rw [eS1]; show S.1 + 1 + (l.length : Int) ≤ 6000; omega)
    have a1 : (cOne 1 P N cur i S).1 = S.1 + 1 := by rw [eS1]
    have aJ : (cOne 1 P N cur i S).2.2.2.1 = if i.2.1 = 1 ∧ outR (P i.2.2) S.1 then vput S.2.2.2.1 cur (ior (S.2.2.2.1 cur) (ishl 1 S.2.1)) else S.2.2.2.1 := by rw [eS1]
    have aW : (cOne 1 P N cur i S).2.2.2.2 = vput S.2.2.2.2 S.1.toNat (finW P N S.1 i) := by rw [eS1]
    have ag : (cOne 1 P N cur i S).2.1 = if isG i then S.2.1 + 1 else S.2.1 := by rw [eS1]
    have ac : (cOne 1 P N cur i S).2.2.1 = if i.2.1 = 1 ∧ outR (P i.2.2) S.1 then 1 else S.2.2.1 := by rw [eS1]
    rw [a1] at hw
    rw [a1, aW] at hf
    refine ⟨W, ?_, ⟨?_, hw⟩, fun k hk => ?_⟩
    · show cI 1 P N cur l (cOne 1 P N cur i S) = _
      rw [e, a1, aJ, ag, ac]
      have u1 : S.1 + 1 + (l.length : Int) = S.1 + (((i :: l).length : Nat) : Int) := by rw [el]; omega
      have u2 : (if isG i then S.2.1 + 1 else S.2.1) + (ngo l : Int) = S.2.1 + ((ngo (i :: l) : Nat) : Int) := by
        show _ = S.2.1 + (((if isG i then 1 else 0) + ngo l : Nat) : Int)
        split <;> omega
      have u3 : (if cX P l (S.1 + 1) = true then 1 else (if i.2.1 = 1 ∧ outR (P i.2.2) S.1 then 1 else S.2.2.1)) = if cX P (i :: l) S.1 = true then 1 else S.2.2.1 := by
        show _ = if (decide (i.2.1 = 1 ∧ outR (P i.2.2) S.1) || cX P l (S.1 + 1)) = true then 1 else S.2.2.1
        by_cases c : i.2.1 = 1 ∧ outR (P i.2.2) S.1
        · rw [if_pos c, decide_eq_true c, Bool.true_or, if_pos rfl]
          split <;> rfl
        · rw [if_neg c, decide_eq_false c, Bool.false_or]
      have u4 : vput (if i.2.1 = 1 ∧ outR (P i.2.2) S.1 then vput S.2.2.2.1 cur (ior (S.2.2.2.1 cur) (ishl 1 S.2.1)) else S.2.2.2.1) cur (jN P l (S.1 + 1) (if isG i then S.2.1 + 1 else S.2.1) ((if i.2.1 = 1 ∧ outR (P i.2.2) S.1 then vput S.2.2.2.1 cur (ior (S.2.2.2.1 cur) (ishl 1 S.2.1)) else S.2.2.2.1) cur)) = vput S.2.2.2.1 cur (jN P (i :: l) S.1 S.2.1 (S.2.2.2.1 cur)) := by
        show _ = vput S.2.2.2.1 cur (jN P l (S.1 + 1) (if isG i then S.2.1 + 1 else S.2.1) (if i.2.1 = 1 ∧ outR (P i.2.2) S.1 then ior (S.2.2.2.1 cur) (ishl 1 S.2.1) else S.2.2.2.1 cur))
        by_cases c : i.2.1 = 1 ∧ outR (P i.2.2) S.1
        · rw [if_pos c, if_pos c]
          have v1 : vput S.2.2.2.1 cur (ior (S.2.2.2.1 cur) (ishl 1 S.2.1)) cur = ior (S.2.2.2.1 cur) (ishl 1 S.2.1) := by
            unfold vput
            rw [if_pos rfl]
          rw [v1]
          funext k
          unfold vput
          by_cases ck : k = cur
          · rw [if_pos ck, if_pos ck]
          · rw [if_neg ck, if_neg ck, if_neg ck]
        · rw [if_neg c, if_neg c]
      rw [u1, u2, u3, u4]
    · rw [hf S.1.toNat (Or.inl (by omega))]
      unfold vput
      rw [if_pos rfl]
    · rw [el] at hk
      have hk2 : (k : Int) < S.1 + 1 ∨ S.1 + 1 + (l.length : Int) ≤ k := by omega
      rw [hf k hk2]
      unfold vput
      rw [if_neg (by rcases hk with h | h <;> omega)]
/-- cX tells whether any goX is -/
theorem cX_go {P : Int → Int} : ∀ (l : List It) (A : Int), (cX P l A = true ↔ ∃ g, g < ngo l ∧ goX P l A g = true)
  | [], A => ⟨fun h => Bool.noConfusion h, fun ⟨g, h, _⟩ => absurd h (Nat.not_lt_zero _)⟩
  | i :: l, A => by
    have ih := cX_go (P := P) l (A + 1)
    show ((decide (i.2.1 = 1 ∧ outR (P i.2.2) A) || cX P l (A + 1)) = true ↔ ∃ g, g < (if isG i then 1 else 0) + ngo l ∧ (if isG i then (match g with | 0 => decide (i.2.1 = 1 ∧ outR (P i.2.2) A) | g + 1 => goX P l (A + 1) g) else goX P l (A + 1) g) = true)
    rw [Bool.or_eq_true, ih]
    by_cases h : isG i
    · rw [if_pos h]
      constructor
      · rintro (a | ⟨g, a, b⟩)
        · exact ⟨0, by omega, by rw [if_pos h]; exact a⟩
        · exact ⟨g + 1, by omega, by rw [if_pos h]; exact b⟩
      · rintro ⟨g, a, b⟩
        rw [if_pos h] at b
        cases g with
        | zero => exact Or.inl b
        | succ g => exact Or.inr ⟨g, by omega, b⟩
    · rw [if_neg h]
      have hd : decide (i.2.1 = 1 ∧ outR (P i.2.2) A) = false := decide_eq_false (fun z => h (Or.inl z.1))
      rw [hd]
      constructor
      · rintro (a | ⟨g, a, b⟩)
        · exact Bool.noConfusion a
        · exact ⟨g, by omega, by rw [if_neg h]; exact b⟩
      · rintro ⟨g, a, b⟩
        rw [if_neg h] at b
        exact Or.inr ⟨g, by omega, b⟩
