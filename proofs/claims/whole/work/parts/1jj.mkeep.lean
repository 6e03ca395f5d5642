/-! WHAT COMPILE LEAVES IN THE MODEL -/
section Mq9
variable {mr m' j' : Mem} {e n p' q dp : Int} {b : Nat → Int}
/-- cells that the model's walks leave -/
def mkB (a k : Nat) : Prop := a < 158 ∨ a = 159 ∨ a = 164 ∨ a = 169 ∨ a = 180 ∨ 184 ≤ a ∨ a = 158 ∧ (54 ≤ k ∨ k = 1 ∨ k = 3 ∨ k = 11)
theorem jt_mk {m : Mem} {a k : Nat} (h : mkB a k) : jt j' m a k = m a k := by
  unfold mkB at h
  unfold jt
  by_cases c : a = 158
  · subst c
    simp (disch := omega) only [if_pos, if_neg, if_true]
  · simp (disch := omega) only [if_neg]
theorem m2_k {m : Mem} {a k : Nat} (h : mkB a k) : m2M j' m e a k = m a k := by
  refine Eq.trans ?_ (jt_mk (j' := j') (m := m) h)
  unfold mkB at h
  unfold m2M rv
  by_cases c : a = 158
  · subst c
    simp (disch := omega) only [put_ss, if_pos, if_neg, if_true]
  · simp (disch := omega) only [put_ss, if_neg]
theorem ftB_k {a k : Nat} (h : mkB a k) : ftB a k = false := by
  unfold mkB at h
  unfold ftB
  simp only [Bool.or_eq_false_iff, Bool.and_eq_false_iff, beq_eq_false_iff_ne]
  omega
theorem rv_mk {m : Mem} {a k : Nat} (h : mkB a k) : rv p' dp m a k = m a k := by
  unfold mkB at h
  unfold rv
  by_cases c : a = 158
  · subst c
    simp (disch := omega) only [if_pos, if_neg, if_true]
  · simp (disch := omega) only [if_neg]
theorem M6k (T : FT (m2M j' (mrF mr b n) e) m') {a k : Nat} (h : mkB a k) : rv p' 0 m' a k = mrF mr b n a k := by
  rw [rv_mk h, T.1 a k (ftB_k h), m2_k h]
theorem fl_k {m : Mem} {a k : Nat} (h : mkB a k) : fl q dp m a k = m a k := by
  unfold mkB at h
  unfold fl
  by_cases c : a = 158
  · subst c
    simp (disch := omega) only [if_pos, if_neg, if_true]
  · simp (disch := omega) only [if_neg]
theorem bk_k {m : Mem} {x y : Int} {a k : Nat} (h : mkB a k) : bkG m x y a k = m a k := by
  unfold mkB at h
  unfold bkG
  by_cases c : a = 158
  · subst c
    simp (disch := omega) only [put_ss, if_pos, if_neg, if_true]
  · simp (disch := omega) only [put_ss, if_neg]
theorem mrF_mk {a k : Nat} (h : mkB a k) (h2 : a = 158 → 54 ≤ k) : mrF mr b n a k = mr a k := by
  unfold mkB at h
  exact KmF_F a k (by omega)
theorem mkB_y {m Y : Mem} (hY : ∀ a k, mkB a k → Y a k = m a k) (h : MyB m) : MyB Y := by
  obtain ⟨h1, h2, h3, h4⟩ := h
  refine ⟨fun k => ?_, fun k => ?_, ?_, fun k => ?_⟩
  · have z := h1 k
    rw [hY 198 k (by unfold mkB; omega)]
    exact z
  · rw [hY 180 k (by unfold mkB; omega)]
    exact h2 k
  · rw [hY 158 85 (by unfold mkB; omega)]
    exact h3
  · rw [hY 169 k (by unfold mkB; omega)]
    exact h4 k
/-- what compile leaves in the model -/
def PMx (mr m2 : Mem) : Prop := (∀ a k, (a < 158 ∨ a = 159 ∨ a = 164 ∨ 201 ≤ a ∨ a = 158 ∧ 86 ≤ k) → m2 a k = mr a k) ∧ m2 158 1 = 0 ∧ m2 158 11 = 1 ∧ MyB m2
/-- and what it leaves of the program that stood there, when the text is faulty -/
def PMf (mr m2 : Mem) : Prop := (∀ k, 54 ≤ k → k ≤ 72 → m2 158 k = mr 158 k) ∧ ∀ a k, 184 ≤ a → a ≤ 194 → m2 a k = mr a k
theorem PM_mk {m2 : Mem} (hB : MyB mr) (h : ∀ a k, mkB a k → m2 a k = mrF mr b n a k) (h1 : mrF mr b n 158 1 = 0) (h2 : mrF mr b n 158 11 = 1) : PMx mr m2 ∧ PMf mr m2 ∧ m2 158 3 = mrF mr b n 158 3 := by
  refine ⟨⟨fun a k hk => ?_, ?_, ?_, ?_⟩, ⟨fun k g1 g2 => ?_, fun a k g1 g2 => ?_⟩, h 158 3 (by unfold mkB; omega)⟩
  · rw [h a k (by unfold mkB; omega), mrF_mk (by unfold mkB; omega) (by omega)]
  · rw [h 158 1 (by unfold mkB; omega), h1]
  · rw [h 158 11 (by unfold mkB; omega), h2]
  · refine mkB_y (m := mrF mr b n) h ?_
    obtain ⟨g1, g2, g3, g4⟩ := hB
    refine ⟨fun k => ?_, fun k => ?_, ?_, fun k => ?_⟩
    · have z := g1 k
      rw [mrF_mk (by unfold mkB; omega) (by omega)]
      exact z
    · rw [mrF_mk (by unfold mkB; omega) (by omega)]
      exact g2 k
    · rw [mrF_mk (by unfold mkB; omega) (by omega)]
      exact g3
    · rw [mrF_mk (by unfold mkB; omega) (by omega)]
      exact g4 k
  · rw [h 158 k (by unfold mkB; omega), mrF_mk (by unfold mkB; omega) (by omega)]
  · rw [h a k (by unfold mkB; omega), mrF_mk (by unfold mkB; omega) (by omega)]
end Mq9
section Mq8
variable {m' : Mem} {p' e0 mn : Int} {Tm : mSt} {Qm W : Nat → Int} {n v : Nat}
theorem yE_k {a k : Nat} (h : a < 158 ∨ a = 159 ∨ a = 164 ∨ 184 ≤ a ∧ a ≤ 194 ∨ 201 ≤ a ∨ a = 158 ∧ (54 ≤ k ∧ k ≤ 72 ∨ 86 ≤ k ∨ k = 1 ∨ k = 3 ∨ k = 9 ∨ k = 10 ∨ k = 11 ∨ k = 15)) : cv W (yEnd Tm Qm (rv p' 0 m') (mLay p' m') e0 n v) a k = rv p' 0 m' a k := by
  generalize hE : eEnd (rv p' 0 m') (mLay p' m') e0 n = E
  unfold cv yEnd vvw lyd my pv fv
  rw [hE]
  by_cases c : a = 158
  · subst c
    unfold mLay
    simp (disch := omega) only [put_ss, if_pos, if_neg, if_true]
  · unfold mLay
    simp (disch := omega) only [put_ss, if_neg]
theorem cpr_ne {Y : Mem} {A c : Nat} {f : Nat → Int} {a k : Nat} (h : a ≠ A) : cpr Y A f c a k = Y a k := if_neg h
theorem put_ne {Y : Mem} {A K : Nat} {x : Int} {a k : Nat} (h : a = A → k ≠ K) : put Y A K x a k = Y a k := by
  rw [put_ss]
  by_cases c : a = A
  · rw [if_pos c, if_neg (h c)]
  · rw [if_neg c]
theorem kMM_k {Y : Mem} {a k : Nat} (h : a < 184 ∨ 194 < a) (h2 : a = 158 → k < 54 ∨ 72 < k) : kMM Y mn a k = Y a k := by
  unfold kMM
  rw [cpr_ne (by omega), put_ne (by omega), put_ne (by omega)]
  unfold kM3
  rw [cpr_ne (by omega), put_ne (by omega), put_ne (by omega)]
  unfold kM2 kp2
  rw [cpr_ne (by omega), cpr_ne (by omega), cpr_ne (by omega), cpr_ne (by omega), cpr_ne (by omega), put_ne (by omega), put_ne (by omega)]
  unfold kM1 kp1
  rw [cpr_ne (by omega), cpr_ne (by omega), cpr_ne (by omega), cpr_ne (by omega), put_ne (by omega), put_ne (by omega)]
theorem kMM_B {Y : Mem} (h : MyB Y) : MyB (kMM (cv W Y) mn) := by
  obtain ⟨h1, h2, h3, h4⟩ := h
  refine ⟨fun k => ?_, fun k => ?_, ?_, fun k => ?_⟩
  · have z := h1 k
    rw [kMM_k (by omega) (by omega)]
    exact z
  · rw [kMM_k (by omega) (by omega)]
    exact h2 k
  · rw [kMM_k (by omega) (by omega)]
    exact h3
  · rw [kMM_k (by omega) (by omega)]
    exact h4 k
theorem cv_B {Y : Mem} {x y : Int} (h : MyB Y) : MyB (bkG (cv W Y) x y) := h
end Mq8
