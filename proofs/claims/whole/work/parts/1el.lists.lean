/-! WHAT IS LAID, read as a list: places of goes and notes, words, bits -/
abbrev isG (i : It) : Prop := i.2.1 = 1 ∨ i.2.1 = 2
def ngo : List It → Nat
  | [] => 0
  | i :: l => (if isG i then 1 else 0) + ngo l
def nno : List It → Nat
  | [] => 0
  | i :: l => (if i.2.1 = 4 then 1 else 0) + nno l
theorem ngo_app : ∀ (l1 l2 : List It), ngo (l1 ++ l2) = ngo l1 + ngo l2
  | [], l2 => (Nat.zero_add _).symm
  | i :: l1, l2 => by
    show (if isG i then 1 else 0) + ngo (l1 ++ l2) = (if isG i then 1 else 0) + ngo l1 + ngo l2
    rw [ngo_app l1 l2]
    omega
theorem nno_app : ∀ (l1 l2 : List It), nno (l1 ++ l2) = nno l1 + nno l2
  | [], l2 => (Nat.zero_add _).symm
  | i :: l1, l2 => by
    show (if i.2.1 = 4 then 1 else 0) + nno (l1 ++ l2) = (if i.2.1 = 4 then 1 else 0) + nno l1 + nno l2
    rw [nno_app l1 l2]
    omega
theorem ngo_len : ∀ (l : List It), ngo l ≤ l.length
  | [] => Nat.le_refl _
  | i :: l => by
    have := ngo_len l
    show (if isG i then 1 else 0) + ngo l ≤ l.length + 1
    split <;> omega
theorem nno_len : ∀ (l : List It), nno l ≤ l.length
  | [] => Nat.le_refl _
  | i :: l => by
    have := nno_len l
    show (if i.2.1 = 4 then 1 else 0) + nno l ≤ l.length + 1
    split <;> omega
/-! the model -/
theorem mI_n : ∀ (l : List It) (T : mSt), (mI l T).1 = T.1 + l.length ∧ (mI l T).2.2.1 = T.2.2.1 + ngo l ∧ (mI l T).2.2.2.2.2.1 = T.2.2.2.2.2.1 + nno l
  | [], T => ⟨(Int.add_zero _).symm, (Int.add_zero _).symm, (Int.add_zero _).symm⟩
  | i :: l, T => by
    obtain ⟨h1, h2, h3⟩ := mI_n l (mOne i T)
    have e1 : (mOne i T).1 = T.1 + 1 := rfl
    have e2 : (mOne i T).2.2.1 = if isG i then T.2.2.1 + 1 else T.2.2.1 := rfl
    have e3 : (mOne i T).2.2.2.2.2.1 = if i.2.1 = 4 then T.2.2.2.2.2.1 + 1 else T.2.2.2.2.2.1 := rfl
    refine ⟨?_, ?_, ?_⟩
    · show (mI l (mOne i T)).1 = T.1 + ((l.length + 1 : Nat) : Int)
      rw [h1, e1]
      omega
    · show (mI l (mOne i T)).2.2.1 = T.2.2.1 + (((if isG i then 1 else 0) + ngo l : Nat) : Int)
      rw [h2, e2]
      split <;> omega
    · show (mI l (mOne i T)).2.2.2.2.2.1 = T.2.2.2.2.2.1 + (((if i.2.1 = 4 then 1 else 0) + nno l : Nat) : Int)
      rw [h3, e3]
      split <;> omega
theorem mI_fr : ∀ (l : List It) (T : mSt), 0 ≤ T.1 → 0 ≤ T.2.2.1 → 0 ≤ T.2.2.2.2.2.1 → (∀ k : Nat, (k : Int) < T.1 → (mI l T).2.1 k = T.2.1 k) ∧ (∀ k : Nat, (k : Int) < T.2.2.1 → (mI l T).2.2.2.1 k = T.2.2.2.1 k ∧ (mI l T).2.2.2.2.1 k = T.2.2.2.2.1 k) ∧ (∀ k : Nat, (k : Int) < T.2.2.2.2.2.1 → (mI l T).2.2.2.2.2.2.1 k = T.2.2.2.2.2.2.1 k ∧ (mI l T).2.2.2.2.2.2.2 k = T.2.2.2.2.2.2.2 k)
  | [], T => fun _ _ _ => ⟨fun _ _ => rfl, fun _ _ => ⟨rfl, rfl⟩, fun _ _ => ⟨rfl, rfl⟩⟩
  | i :: l, T => fun a1 a2 a3 => by
    have e1 : (mOne i T).1 = T.1 + 1 := rfl
    have e2 : (mOne i T).2.2.1 = if isG i then T.2.2.1 + 1 else T.2.2.1 := rfl
    have e3 : (mOne i T).2.2.2.2.2.1 = if i.2.1 = 4 then T.2.2.2.2.2.1 + 1 else T.2.2.2.2.2.1 := rfl
    have b2 : T.2.2.1 ≤ (mOne i T).2.2.1 := by rw [e2]; split <;> omega
    have b3 : T.2.2.2.2.2.1 ≤ (mOne i T).2.2.2.2.2.1 := by rw [e3]; split <;> omega
    obtain ⟨h1, h2, h3⟩ := mI_fr l (mOne i T) (by rw [e1]; omega) (by omega) (by omega)
    refine ⟨fun k hk => ?_, fun k hk => ?_, fun k hk => ?_⟩
    · refine (h1 k (by rw [e1]; omega)).trans ?_
      show vput T.2.1 T.1.toNat i.1 k = T.2.1 k
      unfold vput
      rw [if_neg (by omega)]
    · obtain ⟨u, v⟩ := h2 k (by omega)
      refine ⟨u.trans ?_, v.trans ?_⟩
      · show (if isG i then vput T.2.2.2.1 T.2.2.1.toNat T.1 else T.2.2.2.1) k = T.2.2.2.1 k
        split
        · unfold vput
          rw [if_neg (by omega)]
        · rfl
      · show (if isG i then vput T.2.2.2.2.1 T.2.2.1.toNat i.2.2 else T.2.2.2.2.1) k = T.2.2.2.2.1 k
        split
        · unfold vput
          rw [if_neg (by omega)]
        · rfl
    · obtain ⟨u, v⟩ := h3 k (by omega)
      refine ⟨u.trans ?_, v.trans ?_⟩
      · show (if i.2.1 = 4 then vput T.2.2.2.2.2.2.1 T.2.2.2.2.2.1.toNat T.1 else T.2.2.2.2.2.2.1) k = T.2.2.2.2.2.2.1 k
        split
        · unfold vput
          rw [if_neg (by omega)]
        · rfl
      · show (if i.2.1 = 4 then vput T.2.2.2.2.2.2.2 T.2.2.2.2.2.1.toNat i.2.2 else T.2.2.2.2.2.2.2) k = T.2.2.2.2.2.2.2 k
        split
        · unfold vput
          rw [if_neg (by omega)]
        · rfl
/-- the code at A holds the items' words -/
def CdOk (C : Nat → Int) : List It → Int → Prop
  | [], _ => True
  | i :: l, A => C A.toNat = i.1 ∧ CdOk C l (A + 1)
/-- the goes of the items at A are told from k on -/
def GoOk (ga gt : Nat → Int) : List It → Int → Int → Prop
  | [], _, _ => True
  | i :: l, A, k => (isG i → ga k.toNat = A ∧ gt k.toNat = i.2.2) ∧ GoOk ga gt l (A + 1) (if isG i then k + 1 else k)
/-- the notes of the items at A are told from k on -/
def NoOk (na no : Nat → Int) : List It → Int → Int → Prop
  | [], _, _ => True
  | i :: l, A, k => (i.2.1 = 4 → na k.toNat = A ∧ no k.toNat = i.2.2) ∧ NoOk na no l (A + 1) (if i.2.1 = 4 then k + 1 else k)
theorem mI_ok : ∀ (l : List It) (T : mSt), 0 ≤ T.1 → 0 ≤ T.2.2.1 → 0 ≤ T.2.2.2.2.2.1 → CdOk (mI l T).2.1 l T.1 ∧ GoOk (mI l T).2.2.2.1 (mI l T).2.2.2.2.1 l T.1 T.2.2.1 ∧ NoOk (mI l T).2.2.2.2.2.2.1 (mI l T).2.2.2.2.2.2.2 l T.1 T.2.2.2.2.2.1
  | [], T => fun _ _ _ => ⟨trivial, trivial, trivial⟩
  | i :: l, T => fun a1 a2 a3 => by
    have e1 : (mOne i T).1 = T.1 + 1 := rfl
    have e2 : (mOne i T).2.2.1 = if isG i then T.2.2.1 + 1 else T.2.2.1 := rfl
    have e3 : (mOne i T).2.2.2.2.2.1 = if i.2.1 = 4 then T.2.2.2.2.2.1 + 1 else T.2.2.2.2.2.1 := rfl
    have b2 : 0 ≤ (mOne i T).2.2.1 := by rw [e2]; split <;> omega
    have b3 : 0 ≤ (mOne i T).2.2.2.2.2.1 := by rw [e3]; split <;> omega
    have b1 : 0 ≤ (mOne i T).1 := by rw [e1]; omega
    obtain ⟨h1, h2, h3⟩ := mI_ok l (mOne i T) b1 b2 b3
    obtain ⟨f1, f2, f3⟩ := mI_fr l (mOne i T) b1 b2 b3
    refine ⟨⟨?_, h1⟩, ⟨fun hg => ?_, ?_⟩, ⟨fun hg => ?_, ?_⟩⟩
    · refine (f1 T.1.toNat (by rw [e1]; omega)).trans ?_
      show vput T.2.1 T.1.toNat i.1 T.1.toNat = i.1
      unfold vput
      rw [if_pos rfl]
    · obtain ⟨u, v⟩ := f2 T.2.2.1.toNat (by rw [e2, if_pos hg]; omega)
      refine ⟨u.trans ?_, v.trans ?_⟩
      · show (if isG i then vput T.2.2.2.1 T.2.2.1.toNat T.1 else T.2.2.2.1) T.2.2.1.toNat = T.1
        rw [if_pos hg]
        unfold vput
        rw [if_pos rfl]
      · show (if isG i then vput T.2.2.2.2.1 T.2.2.1.toNat i.2.2 else T.2.2.2.2.1) T.2.2.1.toNat = i.2.2
        rw [if_pos hg]
        unfold vput
        rw [if_pos rfl]
    · rw [← e2]; exact h2
    · obtain ⟨u, v⟩ := f3 T.2.2.2.2.2.1.toNat (by rw [e3, if_pos hg]; omega)
      refine ⟨u.trans ?_, v.trans ?_⟩
      · show (if i.2.1 = 4 then vput T.2.2.2.2.2.2.1 T.2.2.2.2.2.1.toNat T.1 else T.2.2.2.2.2.2.1) T.2.2.2.2.2.1.toNat = T.1
        rw [if_pos hg]
        unfold vput
        rw [if_pos rfl]
      · show (if i.2.1 = 4 then vput T.2.2.2.2.2.2.2 T.2.2.2.2.2.1.toNat i.2.2 else T.2.2.2.2.2.2.2) T.2.2.2.2.2.1.toNat = i.2.2
        rw [if_pos hg]
        unfold vput
        rw [if_pos rfl]
    · rw [← e3]; exact h3
/-! the class -/
theorem cI_0 {P N : Int → Int} {cur : Nat} : ∀ (l : List It) (S : lS), cI 0 P N cur l S = (S.1 + l.length, S.2.1 + ngo l, S.2.2)
  | [], S => by
    show S = (S.1 + 0, S.2.1 + 0, S.2.2)
    rw [Int.add_zero, Int.add_zero]
  | i :: l, S => by
    have e : cOne 0 P N cur i S = (S.1 + 1, (if isG i then S.2.1 + 1 else S.2.1), S.2.2) := by
      unfold cOne
      simp only [show ¬ ((0 : Int) = 1) from by decide, false_and, and_false, if_false]
    show cI 0 P N cur l (cOne 0 P N cur i S) = (S.1 + ((l.length + 1 : Nat) : Int), S.2.1 + (((if isG i then 1 else 0) + ngo l : Nat) : Int), S.2.2)
    rw [cI_0 l, e]
    simp only
    have u1 : S.1 + 1 + (l.length : Int) = S.1 + ((l.length + 1 : Nat) : Int) := by omega
    have u2 : (if isG i then S.2.1 + 1 else S.2.1) + (ngo l : Int) = S.2.1 + (((if isG i then 1 else 0) + ngo l : Nat) : Int) := by split <;> omega
    rw [u1, u2]
/-- the go number g of the items at A is short and does not reach -/
def goX (P : Int → Int) : List It → Int → Nat → Bool
  | [], _, _ => false
  | i :: l, A, g => if isG i then (match g with | 0 => decide (i.2.1 = 1 ∧ outR (P i.2.2) A) | g + 1 => goX P l (A + 1) g) else goX P l (A + 1) g
theorem goX_app {P : Int → Int} : ∀ (l1 l2 : List It) (A : Int) (g : Nat), goX P (l1 ++ l2) A g = if g < ngo l1 then goX P l1 A g else goX P l2 (A + l1.length) (g - ngo l1)
  | [], l2, A, g => by
    show goX P l2 A g = goX P l2 (A + 0) (g - 0)
    rw [Int.add_zero, Nat.sub_zero]
  | i :: l1, l2, A, g => by
    have e0 : A + 1 + (l1.length : Int) = A + (((i :: l1).length : Nat) : Int) := by
      show A + 1 + (l1.length : Int) = A + ((l1.length + 1 : Nat) : Int)
      omega
    show (if isG i then (match g with | 0 => decide (i.2.1 = 1 ∧ outR (P i.2.2) A) | g + 1 => goX P (l1 ++ l2) (A + 1) g) else goX P (l1 ++ l2) (A + 1) g) = if g < (if isG i then 1 else 0) + ngo l1 then (if isG i then (match g with | 0 => decide (i.2.1 = 1 ∧ outR (P i.2.2) A) | g + 1 => goX P l1 (A + 1) g) else goX P l1 (A + 1) g) else goX P l2 (A + (((i :: l1).length : Nat) : Int)) (g - ((if isG i then 1 else 0) + ngo l1))
    by_cases h : isG i
    · rw [if_pos h, if_pos h, if_pos h]
      cases g with
      | zero => rw [if_pos (by omega)]
      | succ g =>
        simp only
        rw [goX_app l1 l2 (A + 1) g, e0]
        by_cases h2 : g < ngo l1
        · rw [if_pos h2, if_pos (by omega)]
        · rw [if_neg h2, if_neg (by omega), show g + 1 - (1 + ngo l1) = g - ngo l1 by omega]
    · rw [if_neg h, if_neg h, if_neg h, goX_app l1 l2 (A + 1) g, e0, Nat.zero_add]
