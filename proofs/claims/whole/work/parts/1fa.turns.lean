/-! BOTH TURNS OF THE CLASS, told -/
section Tn2
variable {cd : Nat} {m : Mem} {p0 A0 ch g0 : Int} {J W Q : Nat → Int}
/-- the turn for places -/
def gSq (m : Mem) (cd : Nat) (p0 g0 : Int) (J : Nat → Int) : Nat → Int
  | 0 => g0
  | i + 1 => ngo (dC m cd p0 (J i) i)
def SSp (m : Mem) (cd : Nat) (p0 A0 g0 ch : Int) (J W : Nat → Int) (i : Nat) : lS := (A0 + (clI m cd p0 J i).length, gSq m cd p0 g0 J i, ch, J, W)
theorem SSp_s {P N : Int → Int} {i : Nat} : SSp m cd p0 A0 g0 ch J W (i + 1) = cI 0 P N i (dC m cd p0 ((SSp m cd p0 A0 g0 ch J W i).2.2.2.1 i) i) ((SSp m cd p0 A0 g0 ch J W i).1, 0, (SSp m cd p0 A0 g0 ch J W i).2.2) := by
  rw [cI_0]
  have e1 : A0 + ((clI m cd p0 J (i + 1)).length : Int) = A0 + ((clI m cd p0 J i).length : Int) + ((dC m cd p0 (J i) i).length : Int) := by
    have z : clI m cd p0 J (i + 1) = clI m cd p0 J i ++ dC m cd p0 (J i) i := rfl
    rw [z, List.length_append]
    omega
  show (A0 + ((clI m cd p0 J (i + 1)).length : Int), ((ngo (dC m cd p0 (J i) i) : Nat) : Int), ch, J, W) = (A0 + ((clI m cd p0 J i).length : Int) + ((dC m cd p0 (J i) i).length : Int), 0 + ((ngo (dC m cd p0 (J i) i) : Nat) : Int), ch, J, W)
  rw [e1, Int.zero_add]
/-- the writing turn: places and notes as they are read -/
def Pw (m : Mem) (cd : Nat) (Q : Nat → Int) : Int → Int := PLc (qv cd Q 0 0 m) cd
def Nw (m : Mem) (cd : Nat) (Q : Nat → Int) : Int → Int := nC (qv cd Q 0 0 m) cd
theorem Pw_e (hc : cd = 83 ∨ cd = 93) {i p : Int} : PLc (qv cd Q i p m) cd = Pw m cd Q := by
  rcases hc with rfl | rfl <;> rfl
theorem Nw_e (hc : cd = 83 ∨ cd = 93) {i p : Int} : nC (qv cd Q i p m) cd = Nw m cd Q := by
  rcases hc with rfl | rfl <;> rfl
def SSw (m : Mem) (cd : Nat) (p0 : Int) (Q : Nat → Int) (S0 : lS) : Nat → lS
  | 0 => S0
  | i + 1 => cI 1 (Pw m cd Q) (Nw m cd Q) i (dC m cd p0 ((SSw m cd p0 Q S0 i).2.2.2.1 i) i) ((SSw m cd p0 Q S0 i).1, 0, (SSw m cd p0 Q S0 i).2.2)
/-- the bits behind the first orders -/
def Jw (m : Mem) (cd : Nat) (p0 A0 : Int) (Q J : Nat → Int) (i : Nat) : Nat → Int := fun q => if q < i then jN (Pw m cd Q) (dC m cd p0 (J q) q) (A0 + (clI m cd p0 J q).length) 0 (J q) else J q
theorem SSw_ok {S0 : lS} (hA : S0.1 = A0) (hA0 : 0 ≤ A0) (hJ : S0.2.2.2.1 = J) (hch : S0.2.2.1 = ch) {n : Nat} (hn : A0 + ((clI m cd p0 J n).length : Int) ≤ 6000) (hmo : ∀ i, i ≤ n → (clI m cd p0 J i).length ≤ (clI m cd p0 J n).length) : ∀ i, i ≤ n → ∃ (g : Int) (W : Nat → Int), SSw m cd p0 Q S0 i = (A0 + ((clI m cd p0 J i).length : Int), g, (if cX (Pw m cd Q) (clI m cd p0 J i) A0 = true then 1 else ch), Jw m cd p0 A0 Q J i, W) ∧ WdOk (Pw m cd Q) (Nw m cd Q) W (clI m cd p0 J i) A0 ∧ (∀ k : Nat, ((k : Int) < A0 ∨ A0 + ((clI m cd p0 J i).length : Int) ≤ k) → W k = S0.2.2.2.2 k)
  | 0 => fun _ => by
    refine ⟨S0.2.1, S0.2.2.2.2, ?_, trivial, fun _ _ => rfl⟩
    have e1 : A0 + (((clI m cd p0 J 0).length : Nat) : Int) = A0 := Int.add_zero A0
    have e2 : (if cX (Pw m cd Q) (clI m cd p0 J 0) A0 = true then 1 else ch) = ch := rfl
    have e3 : Jw m cd p0 A0 Q J 0 = J := by
      funext q
      unfold Jw
      rw [if_neg (by omega)]
    rw [e1, e2, e3, ← hA, ← hJ, ← hch]
    rfl
  | i + 1 => fun hi => by
    obtain ⟨g, W, e, hw, hf⟩ := SSw_ok hA hA0 hJ hch hn hmo i (by omega)
    have el : clI m cd p0 J (i + 1) = clI m cd p0 J i ++ dC m cd p0 (J i) i := rfl
    have hlen : ((clI m cd p0 J (i + 1)).length : Int) = ((clI m cd p0 J i).length : Int) + ((dC m cd p0 (J i) i).length : Int) := by
      rw [el, List.length_append]
      omega
    have hm := hmo (i + 1) hi
    have eJi : Jw m cd p0 A0 Q J i i = J i := by
      unfold Jw
      rw [if_neg (by omega)]
    have es : SSw m cd p0 Q S0 (i + 1) = cI 1 (Pw m cd Q) (Nw m cd Q) i (dC m cd p0 (J i) i) (A0 + ((clI m cd p0 J i).length : Int), 0, (if cX (Pw m cd Q) (clI m cd p0 J i) A0 = true then 1 else ch), Jw m cd p0 A0 Q J i, W) := by
      show cI 1 (Pw m cd Q) (Nw m cd Q) i (dC m cd p0 ((SSw m cd p0 Q S0 i).2.2.2.1 i) i) ((SSw m cd p0 Q S0 i).1, 0, (SSw m cd p0 Q S0 i).2.2) = _
      rw [e]
      show cI 1 (Pw m cd Q) (Nw m cd Q) i (dC m cd p0 (Jw m cd p0 A0 Q J i i) i) _ = _
      rw [eJi]
    obtain ⟨W2, e2, hw2, hf2⟩ := cI_1 (P := Pw m cd Q) (N := Nw m cd Q) (cur := i) (dC m cd p0 (J i) i) (A0 + ((clI m cd p0 J i).length : Int), 0, (if cX (Pw m cd Q) (clI m cd p0 J i) A0 = true then 1 else ch), Jw m cd p0 A0 Q J i, W) (by show 0 ≤ A0 + ((clI m cd p0 J i).length : Int); omega) (by show A0 + ((clI m cd p0 J i).length : Int) + ((dC m cd p0 (J i) i).length : Int) ≤ 6000; omega)
    simp only at e2 hw2 hf2
    rw [eJi] at e2
    refine ⟨0 + ((ngo (dC m cd p0 (J i) i) : Nat) : Int), W2, ?_, ?_, fun k hk => ?_⟩
    · rw [es, e2, hlen, el, cX_app]
      have u1 : A0 + ((clI m cd p0 J i).length : Int) + ((dC m cd p0 (J i) i).length : Int) = A0 + (((clI m cd p0 J i).length : Int) + ((dC m cd p0 (J i) i).length : Int)) := by omega
      have u2 : (if cX (Pw m cd Q) (dC m cd p0 (J i) i) (A0 + ((clI m cd p0 J i).length : Int)) = true then (1 : Int) else (if cX (Pw m cd Q) (clI m cd p0 J i) A0 = true then 1 else ch)) = if (cX (Pw m cd Q) (clI m cd p0 J i) A0 || cX (Pw m cd Q) (dC m cd p0 (J i) i) (A0 + ((clI m cd p0 J i).length : Int))) = true then 1 else ch := by
        cases cX (Pw m cd Q) (dC m cd p0 (J i) i) (A0 + ((clI m cd p0 J i).length : Int)) <;> cases cX (Pw m cd Q) (clI m cd p0 J i) A0 <;> rfl
      have u3 : vput (Jw m cd p0 A0 Q J i) i (jN (Pw m cd Q) (dC m cd p0 (J i) i) (A0 + ((clI m cd p0 J i).length : Int)) 0 (J i)) = Jw m cd p0 A0 Q J (i + 1) := by
        funext q
        unfold vput Jw
        by_cases h : q = i
        · subst h
          rw [if_pos rfl, if_pos (by omega)]
        · rw [if_neg h]
          by_cases h2 : q < i
          · rw [if_pos h2, if_pos (by omega)]
          · rw [if_neg h2, if_neg (by omega)]
      rw [u1, u2, u3]
    · rw [el, WdOk_app]
      refine ⟨WdOk_fr _ A0 hA0 (fun k k0 k1 => hf2 k (Or.inl k1)) hw, hw2⟩
    · rw [hlen] at hk
      rw [hf2 k (by omega), hf k (by omega)]
end Tn2
