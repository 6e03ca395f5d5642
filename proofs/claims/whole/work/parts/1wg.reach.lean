/-! THE METHODS THAT THE CONSTRUCTORS REACH, as functions (printed by a program) -/
abbrev FF : Nat := 4000000
theorem ux {L : Nat} {xs : Nat → Int32} {d F : Nat} {t : xT} : EF L xs d F t (fun _ _ => none) := fun _ _ _ _ => rr_n
section Reach
variable {L : Nat} {xs : Nat → Int32}
/-- String.<init> -/
def cf_0 : tF := (q31 q56 (q31 (q34 0 0 (q2 0 2) (q2 1 2)) (q31 (q34 0 1 (q2 0 2) (q2 2 0)) q48)))
def cm_0 : tC := qm 3 [2, 2, 0] 0 9 cf_0
theorem sf_0 (d : Nat) (h : 0 ≤ d) : EF L xs d FF tr_0 cf_0 := (s_31 s_56 (s_31 (s_34 s_2 s_2) (s_31 (s_34 s_2 s_2) s_48)))
theorem sm_0 (d : Nat) (h : 1 ≤ d) : CM L xs d FF 0 cm_0 := by
  obtain ⟨e, rfl⟩ : ∃ e, d = e + 1 := ⟨d - 1, by omega⟩
  exact s_m rfl (sf_0 e (by omega)) rfl
/-- String.coder -/
def cf_2 : tF := (q47 (q9 (q21 1 (q0 1)) (q5 0 1 (q2 0 2)) (q0 1)))
def cm_2 : tC := qm 1 [2] 1 4 cf_2
theorem sf_2 (d : Nat) (h : 0 ≤ d) : EF L xs d FF tr_2 cf_2 := (s_47 (s_9 (s_21 s_18) (s_5 s_2) s_0))
theorem sm_2 (d : Nat) (h : 1 ≤ d) : CM L xs d FF 2 cm_2 := by
  obtain ⟨e, rfl⟩ : ∃ e, d = e + 1 := ⟨d - 1, by omega⟩
  exact s_m rfl (sf_2 e (by omega)) rfl
/-- String.isLatin1 -/
def cf_3 : tF := (q47 (q9 (q23 (q21 1 (q0 1)) (q21 0 (q5 0 1 (q2 0 2)))) (q0 1) (q0 0)))
def cm_3 : tC := qm 1 [2] 1 3 cf_3
theorem sf_3 (d : Nat) (h : 0 ≤ d) : EF L xs d FF tr_3 cf_3 := (s_47 (s_9 (s_23 (s_21 s_18) (s_21 (s_5 s_2))) s_0 s_0))
theorem sm_3 (d : Nat) (h : 1 ≤ d) : CM L xs d FF 3 cm_3 := by
  obtain ⟨e, rfl⟩ : ∃ e, d = e + 1 := ⟨d - 1, by omega⟩
  exact s_m rfl (sf_3 e (by omega)) rfl
/-- GatedPile$Code.<init> -/
def cf_16 : tF := (q31 q56 (q31 (q34 1 1 (q2 0 2) (q12 0 (q0 3000))) (q31 (q34 1 2 (q2 0 2) (q12 0 (q0 3000))) (q31 (q34 1 3 (q2 0 2) (q12 0 (q0 3000))) (q31 (q34 1 4 (q2 0 2) (q12 0 (q0 3000))) (q31 (q34 1 6 (q2 0 2) (q12 0 (q0 40))) (q31 (q34 1 7 (q2 0 2) (q12 0 (q0 40))) (q31 (q34 1 8 (q2 0 2) (q12 0 (q0 40))) (q31 (q34 1 9 (q2 0 2) (q12 0 (q0 40))) (q31 (q34 1 13 (q2 0 2) (q12 0 (q0 6000))) q48))))))))))
def cm_16 : tC := qm 1 [2] 0 9 cf_16
theorem sf_16 (d : Nat) (h : 0 ≤ d) : EF L xs d FF tr_16 cf_16 := (s_31 s_56 (s_31 (s_34 s_2 (s_12 s_0)) (s_31 (s_34 s_2 (s_12 s_0)) (s_31 (s_34 s_2 (s_12 s_0)) (s_31 (s_34 s_2 (s_12 s_0)) (s_31 (s_34 s_2 (s_12 s_0)) (s_31 (s_34 s_2 (s_12 s_0)) (s_31 (s_34 s_2 (s_12 s_0)) (s_31 (s_34 s_2 (s_12 s_0)) (s_31 (s_34 s_2 (s_12 s_0)) s_48))))))))))
theorem sm_16 (d : Nat) (h : 1 ≤ d) : CM L xs d FF 16 cm_16 := by
  obtain ⟨e, rfl⟩ : ∃ e, d = e + 1 := ⟨d - 1, by omega⟩
  exact s_m rfl (sf_16 e (by omega)) rfl
/-- GatedPile$Grammar.<init> -/
def cf_17 : tF := (q31 q56 (q31 (q34 2 0 (q2 0 2) (q2 1 2)) q48))
def cm_17 : tC := qm 2 [2, 2] 0 9 cf_17
theorem sf_17 (d : Nat) (h : 0 ≤ d) : EF L xs d FF tr_17 cf_17 := (s_31 s_56 (s_31 (s_34 s_2 s_2) s_48))
theorem sm_17 (d : Nat) (h : 1 ≤ d) : CM L xs d FF 17 cm_17 := by
  obtain ⟨e, rfl⟩ : ∃ e, d = e + 1 := ⟨d - 1, by omega⟩
  exact s_m rfl (sf_17 e (by omega)) rfl
/-- GatedPile$Layer.<init> -/
def cf_35 : tF := (q31 q56 (q31 (q34 3 8 (q2 0 2) (q12 0 (q0 3000))) (q31 (q34 3 0 (q2 0 2) (q2 1 2)) q48)))
def cm_35 : tC := qm 2 [2, 2] 0 9 cf_35
theorem sf_35 (d : Nat) (h : 0 ≤ d) : EF L xs d FF tr_35 cf_35 := (s_31 s_56 (s_31 (s_34 s_2 (s_12 s_0)) (s_31 (s_34 s_2 s_2) s_48)))
theorem sm_35 (d : Nat) (h : 1 ≤ d) : CM L xs d FF 35 cm_35 := by
  obtain ⟨e, rfl⟩ : ∃ e, d = e + 1 := ⟨d - 1, by omega⟩
  exact s_m rfl (sf_35 e (by omega)) rfl
/-- GatedPile$Machine.<init> -/
def cf_83 : tF := (q31 q56 (q31 (q34 4 0 (q2 0 2) (q12 0 (q0 8192))) (q31 (q34 4 1 (q2 0 2) (q12 0 (q0 8))) (q31 (q34 4 7 (q2 0 2) (q12 0 (q0 200))) (q31 (q34 4 10 (q2 0 2) (q12 0 (q0 500))) q48)))))
def cm_83 : tC := qm 1 [2] 0 9 cf_83
theorem sf_83 (d : Nat) (h : 0 ≤ d) : EF L xs d FF tr_83 cf_83 := (s_31 s_56 (s_31 (s_34 s_2 (s_12 s_0)) (s_31 (s_34 s_2 (s_12 s_0)) (s_31 (s_34 s_2 (s_12 s_0)) (s_31 (s_34 s_2 (s_12 s_0)) s_48)))))
theorem sm_83 (d : Nat) (h : 1 ≤ d) : CM L xs d FF 83 cm_83 := by
  obtain ⟨e, rfl⟩ : ∃ e, d = e + 1 := ⟨d - 1, by omega⟩
  exact s_m rfl (sf_83 e (by omega)) rfl
/-- GatedPile$Maker.<init> -/
def cf_84 : tF := (q31 q56 (q31 (q34 5 6 (q2 0 2) (q12 0 (q0 1510))) (q31 (q34 5 11 (q2 0 2) (q12 0 (q0 3000))) (q31 (q34 5 0 (q2 0 2) (q2 1 2)) (q31 (q34 5 1 (q2 0 2) (q2 2 2)) q48)))))
def cm_84 : tC := qm 3 [2, 2, 2] 0 9 cf_84
theorem sf_84 (d : Nat) (h : 0 ≤ d) : EF L xs d FF tr_84 cf_84 := (s_31 s_56 (s_31 (s_34 s_2 (s_12 s_0)) (s_31 (s_34 s_2 (s_12 s_0)) (s_31 (s_34 s_2 s_2) (s_31 (s_34 s_2 s_2) s_48)))))
theorem sm_84 (d : Nat) (h : 1 ≤ d) : CM L xs d FF 84 cm_84 := by
  obtain ⟨e, rfl⟩ : ∃ e, d = e + 1 := ⟨d - 1, by omega⟩
  exact s_m rfl (sf_84 e (by omega)) rfl
/-- GatedPile$Net.become -/
def cf_122 : tF := (q31 (q38 (q23 (q20 3 (q2 1 0) (q0 2)) (q20 2 (q2 1 0) (q0 196))) (q35 0 (q5 6 2 (q2 0 2)) (q2 1 0) (q2 2 0))) q48)
def cm_122 : tC := qm 3 [2, 0, 0] 7 9 cf_122
theorem sf_122 (d : Nat) (h : 0 ≤ d) : EF L xs d FF tr_122 cf_122 := (s_31 (s_38 (s_23 (s_20 s_2 s_0) (s_20 s_2 s_0)) (s_35 (s_5 s_2) s_2 s_2)) s_48)
theorem sm_122 (d : Nat) (h : 1 ≤ d) : CM L xs d FF 122 cm_122 := by
  obtain ⟨e, rfl⟩ : ∃ e, d = e + 1 := ⟨d - 1, by omega⟩
  exact s_m rfl (sf_122 e (by omega)) rfl
/-- GatedPile$Net.<init> -/
def cf_124 : tF := (q31 q56 (q31 (q34 6 0 (q2 0 2) (q0 212)) (q31 (q34 6 2 (q2 0 2) (q12 0 (q0 4104))) (q31 (q34 6 3 (q2 0 2) (q12 0 (q0 4104))) (q31 (q34 6 4 (q2 0 2) (q12 0 (q0 4104))) (q31 (q34 6 5 (q2 0 2) (q12 0 (q0 4104))) q48))))))
def cm_124 : tC := qm 1 [2] 0 9 cf_124
theorem sf_124 (d : Nat) (h : 0 ≤ d) : EF L xs d FF tr_124 cf_124 := (s_31 s_56 (s_31 (s_34 s_2 s_0) (s_31 (s_34 s_2 (s_12 s_0)) (s_31 (s_34 s_2 (s_12 s_0)) (s_31 (s_34 s_2 (s_12 s_0)) (s_31 (s_34 s_2 (s_12 s_0)) s_48))))))
theorem sm_124 (d : Nat) (h : 1 ≤ d) : CM L xs d FF 124 cm_124 := by
  obtain ⟨e, rfl⟩ : ∃ e, d = e + 1 := ⟨d - 1, by omega⟩
  exact s_m rfl (sf_124 e (by omega)) rfl
/-- GatedPile$Tops.spell -/
def cf_144 : tF := (q47 (q3 11 (q3 12 (q2 0 1) (q0 37)) (q4 1 (q9 (q20 3 (q2 2 0) (q0 97)) (q3 0 (q3 1 (q2 2 0) (q0 97)) (q0 1)) (q3 0 (q3 1 (q2 2 0) (q0 48)) (q0 27))))))
def cm_144 : tC := qm 3 [1, 0] 0 1 cf_144
theorem sf_144 (d : Nat) (h : 0 ≤ d) : EF L xs d FF tr_144 cf_144 := (s_47 (s_3 (s_3 s_2 s_1) (s_4 (s_9 (s_20 s_2 s_0) (s_3 (s_3 s_2 s_0) s_0) (s_3 (s_3 s_2 s_0) s_0)))))
theorem sm_144 (d : Nat) (h : 1 ≤ d) : CM L xs d FF 144 cm_144 := by
  obtain ⟨e, rfl⟩ : ∃ e, d = e + 1 := ⟨d - 1, by omega⟩
  exact s_m rfl (sf_144 e (by omega)) rfl
/-- GatedPile$Tops.<init> -/
def cf_163 : tF := (q31 q56 (q31 (q34 8 0 (q2 0 2) (q12 1 (q0 1510))) (q31 (q34 8 1 (q2 0 2) (q12 0 (q0 1510))) (q31 (q34 8 2 (q2 0 2) (q12 0 (q0 1510))) (q31 (q34 8 3 (q2 0 2) (q12 0 (q0 1510))) (q31 (q34 8 9 (q2 0 2) (q12 0 (q0 500))) (q31 (q34 8 10 (q2 0 2) (q12 0 (q0 500))) (q31 (q34 8 11 (q2 0 2) (q12 0 (q0 300))) (q31 (q34 8 12 (q2 0 2) (q12 0 (q0 1510))) (q31 (q34 8 13 (q2 0 2) (q12 0 (q0 301))) q48))))))))))
def cm_163 : tC := qm 1 [2] 0 9 cf_163
theorem sf_163 (d : Nat) (h : 0 ≤ d) : EF L xs d FF tr_163 cf_163 := (s_31 s_56 (s_31 (s_34 s_2 (s_12 s_0)) (s_31 (s_34 s_2 (s_12 s_0)) (s_31 (s_34 s_2 (s_12 s_0)) (s_31 (s_34 s_2 (s_12 s_0)) (s_31 (s_34 s_2 (s_12 s_0)) (s_31 (s_34 s_2 (s_12 s_0)) (s_31 (s_34 s_2 (s_12 s_0)) (s_31 (s_34 s_2 (s_12 s_0)) (s_31 (s_34 s_2 (s_12 s_0)) s_48))))))))))
theorem sm_163 (d : Nat) (h : 1 ≤ d) : CM L xs d FF 163 cm_163 := by
  obtain ⟨e, rfl⟩ : ∃ e, d = e + 1 := ⟨d - 1, by omega⟩
  exact s_m rfl (sf_163 e (by omega)) rfl
/-- GatedPile$Wiring.<init> -/
def cf_164 : tF := (q31 q56 (q31 (q34 9 4 (q2 0 2) (q12 0 (q0 4))) (q31 (q34 9 5 (q2 0 2) (q12 0 (q0 16))) (q31 (q34 9 0 (q2 0 2) (q2 1 2)) q48))))
def cm_164 : tC := qm 2 [2, 2] 0 9 cf_164
theorem sf_164 (d : Nat) (h : 0 ≤ d) : EF L xs d FF tr_164 cf_164 := (s_31 s_56 (s_31 (s_34 s_2 (s_12 s_0)) (s_31 (s_34 s_2 (s_12 s_0)) (s_31 (s_34 s_2 s_2) s_48))))
theorem sm_164 (d : Nat) (h : 1 ≤ d) : CM L xs d FF 164 cm_164 := by
  obtain ⟨e, rfl⟩ : ∃ e, d = e + 1 := ⟨d - 1, by omega⟩
  exact s_m rfl (sf_164 e (by omega)) rfl
/-- GatedPile$Wiring.register -/
def cf_166 : tF := (q47 (q3 0 (q3 0 (q0 68) (q3 2 (q0 16) (q2 1 0))) (q2 2 0)))
def cm_166 : tC := qm 3 [2, 0, 0] 10 0 cf_166
theorem sf_166 (d : Nat) (h : 0 ≤ d) : EF L xs d FF tr_166 cf_166 := (s_47 (s_3 (s_3 s_0 (s_3 s_0 s_2)) s_2))
theorem sm_166 (d : Nat) (h : 1 ≤ d) : CM L xs d FF 166 cm_166 := by
  obtain ⟨e, rfl⟩ : ∃ e, d = e + 1 := ⟨d - 1, by omega⟩
  exact s_m rfl (sf_166 e (by omega)) rfl
/-- GatedPile$Wiring.wiresFrom -/
def cf_168 : tF := (q31 (q32 1 2 (q12 0 (q0 16))) (q31 (q31 (q32 2 0 (q0 0)) (q41 FF (q20 2 (q2 2 0) (q0 16)) (q35 0 (q2 1 2) (q2 2 0) (q3 0 (q2 0 0) (q2 2 0))) (q33 2 1))) (q47 (q2 1 2))))
def cm_168 : tC := qm 3 [0] 0 2 cf_168
theorem sf_168 (d : Nat) (h : 0 ≤ d) : EF L xs d FF tr_168 cf_168 := (s_31 (s_32 (s_12 s_0)) (s_31 (s_31 (s_32 s_0) (s_41 (s_20 s_2 s_0) (s_35 s_2 s_2 (s_3 s_2 s_2)) s_33)) (s_47 s_2)))
theorem sm_168 (d : Nat) (h : 1 ≤ d) : CM L xs d FF 168 cm_168 := by
  obtain ⟨e, rfl⟩ : ∃ e, d = e + 1 := ⟨d - 1, by omega⟩
  exact s_m rfl (sf_168 e (by omega)) rfl
/-- GatedPile$Wiring.opBit -/
def cf_171 : tF := (q47 (q9 (q20 0 (q3 5 (q3 9 (q2 1 0) (q2 2 0)) (q0 1)) (q0 1)) (q3 0 (q0 30) (q2 2 0)) (q6 0 (q5 9 4 (q2 0 2)) (q3 5 (q2 2 0) (q0 3)))))
def cm_171 : tC := qm 3 [2, 0, 0] 10 0 cf_171
theorem sf_171 (d : Nat) (h : 0 ≤ d) : EF L xs d FF tr_171 cf_171 := (s_47 (s_9 (s_20 (s_3 (s_3 s_2 s_2) s_0) s_0) (s_3 s_0 s_2) (s_6 (s_5 s_2) (s_3 s_2 s_0))))
theorem sm_171 (d : Nat) (h : 1 ≤ d) : CM L xs d FF 171 cm_171 := by
  obtain ⟨e, rfl⟩ : ∃ e, d = e + 1 := ⟨d - 1, by omega⟩
  exact s_m rfl (sf_171 e (by omega)) rfl
/-- GatedPileModel.isLetter -/
def cf_200 : tF := (q47 (q9 (q23 (q20 3 (q2 0 0) (q0 97)) (q20 5 (q2 0 0) (q0 122))) (q0 1) (q0 0)))
def cm_200 : tC := qm 1 [0] 0 3 cf_200
theorem sf_200 (d : Nat) (h : 0 ≤ d) : EF L xs d FF tr_200 cf_200 := (s_47 (s_9 (s_23 (s_20 s_2 s_0) (s_20 s_2 s_0)) s_0 s_0))
theorem sm_200 (d : Nat) (h : 1 ≤ d) : CM L xs d FF 200 cm_200 := by
  obtain ⟨e, rfl⟩ : ∃ e, d = e + 1 := ⟨d - 1, by omega⟩
  exact s_m rfl (sf_200 e (by omega)) rfl
/-- GatedPileModel.row -/
def cf_298 : tF := (q31 (q32 1 2 (q12 0 (q0 16))) (q31 (q31 (q32 2 0 (q0 0)) (q41 FF (q20 2 (q2 2 0) (q0 16)) (q35 0 (q2 1 2) (q2 2 0) (q3 0 (q2 0 0) (q2 2 0))) (q33 2 1))) (q47 (q2 1 2))))
def cm_298 : tC := qm 3 [0] 0 2 cf_298
theorem sf_298 (d : Nat) (h : 0 ≤ d) : EF L xs d FF tr_298 cf_298 := (s_31 (s_32 (s_12 s_0)) (s_31 (s_31 (s_32 s_0) (s_41 (s_20 s_2 s_0) (s_35 s_2 s_2 (s_3 s_2 s_2)) s_33)) (s_47 s_2)))
theorem sm_298 (d : Nat) (h : 1 ≤ d) : CM L xs d FF 298 cm_298 := by
  obtain ⟨e, rfl⟩ : ∃ e, d = e + 1 := ⟨d - 1, by omega⟩
  exact s_m rfl (sf_298 e (by omega)) rfl
/-- GatedPileModel.register -/
def cf_299 : tF := (q47 (q3 0 (q3 0 (q0 68) (q3 2 (q0 16) (q2 0 0))) (q2 1 0)))
def cm_299 : tC := qm 2 [0, 0] 0 0 cf_299
theorem sf_299 (d : Nat) (h : 0 ≤ d) : EF L xs d FF tr_299 cf_299 := (s_47 (s_3 (s_3 s_0 (s_3 s_0 s_2)) s_2))
theorem sm_299 (d : Nat) (h : 1 ≤ d) : CM L xs d FF 299 cm_299 := by
  obtain ⟨e, rfl⟩ : ∃ e, d = e + 1 := ⟨d - 1, by omega⟩
  exact s_m rfl (sf_299 e (by omega)) rfl
/-- GatedPileModel.number -/
def cf_302 : tF := (q31 (q32 1 2 (q12 0 (q0 16))) (q31 (q31 (q32 2 0 (q0 0)) (q41 FF (q20 2 (q2 2 0) (q0 16)) (q35 0 (q2 1 2) (q2 2 0) (q3 0 (q0 18) (q9 (q20 4 (q2 2 0) (q2 0 0)) (q2 0 0) (q2 2 0)))) (q33 2 1))) (q47 (q2 1 2))))
def cm_302 : tC := qm 3 [0] 0 2 cf_302
theorem sf_302 (d : Nat) (h : 0 ≤ d) : EF L xs d FF tr_302 cf_302 := (s_31 (s_32 (s_12 s_0)) (s_31 (s_31 (s_32 s_0) (s_41 (s_20 s_2 s_0) (s_35 s_2 s_2 (s_3 s_0 (s_9 (s_20 s_2 s_2) s_2 s_2))) s_33)) (s_47 s_2)))
theorem sm_302 (d : Nat) (h : 1 ≤ d) : CM L xs d FF 302 cm_302 := by
  obtain ⟨e, rfl⟩ : ∃ e, d = e + 1 := ⟨d - 1, by omega⟩
  exact s_m rfl (sf_302 e (by omega)) rfl
/-- Math.max -/
def cf_343 : tF := (q47 (q9 (q20 3 (q2 0 0) (q2 1 0)) (q2 0 0) (q2 1 0)))
def cm_343 : tC := qm 2 [0, 0] 0 0 cf_343
theorem sf_343 (d : Nat) (h : 0 ≤ d) : EF L xs d FF tr_343 cf_343 := (s_47 (s_9 (s_20 s_2 s_2) s_2 s_2))
theorem sm_343 (d : Nat) (h : 1 ≤ d) : CM L xs d FF 343 cm_343 := by
  obtain ⟨e, rfl⟩ : ∃ e, d = e + 1 := ⟨d - 1, by omega⟩
  exact s_m rfl (sf_343 e (by omega)) rfl
/-- Math.min -/
def cf_344 : tF := (q47 (q9 (q20 5 (q2 0 0) (q2 1 0)) (q2 0 0) (q2 1 0)))
def cm_344 : tC := qm 2 [0, 0] 0 0 cf_344
theorem sf_344 (d : Nat) (h : 0 ≤ d) : EF L xs d FF tr_344 cf_344 := (s_47 (s_9 (s_20 s_2 s_2) s_2 s_2))
theorem sm_344 (d : Nat) (h : 1 ≤ d) : CM L xs d FF 344 cm_344 := by
  obtain ⟨e, rfl⟩ : ∃ e, d = e + 1 := ⟨d - 1, by omega⟩
  exact s_m rfl (sf_344 e (by omega)) rfl
/-- Preconditions.checkIndex -/
def cf_345 : tF := (q31 (q27 (q24 (q21 2 (q2 0 0)) (q20 3 (q2 0 0) (q2 1 0))) (fun _ _ => none)) (q47 (q2 0 0)))
def cm_345 : tC := qm 3 [0, 0, 2] 0 0 cf_345
theorem sf_345 (d : Nat) (h : 0 ≤ d) : EF L xs d FF tr_345 cf_345 := (s_31 (s_27 (s_24 (s_21 s_2) (s_20 s_2 s_2)) ux) (s_47 s_2))
theorem sm_345 (d : Nat) (h : 1 ≤ d) : CM L xs d FF 345 cm_345 := by
  obtain ⟨e, rfl⟩ : ∃ e, d = e + 1 := ⟨d - 1, by omega⟩
  exact s_m rfl (sf_345 e (by omega)) rfl
/-- Preconditions.checkFromToIndex -/
def cf_346 : tF := (q31 (q27 (q24 (q24 (q21 2 (q2 0 0)) (q20 4 (q2 0 0) (q2 1 0))) (q20 4 (q2 1 0) (q2 2 0))) (fun _ _ => none)) (q47 (q2 0 0)))
def cm_346 : tC := qm 4 [0, 0, 0, 2] 0 0 cf_346
theorem sf_346 (d : Nat) (h : 0 ≤ d) : EF L xs d FF tr_346 cf_346 := (s_31 (s_27 (s_24 (s_24 (s_21 s_2) (s_20 s_2 s_2)) (s_20 s_2 s_2)) ux) (s_47 s_2))
theorem sm_346 (d : Nat) (h : 1 ≤ d) : CM L xs d FF 346 cm_346 := by
  obtain ⟨e, rfl⟩ : ∃ e, d = e + 1 := ⟨d - 1, by omega⟩
  exact s_m rfl (sf_346 e (by omega)) rfl
/-- Arrays.checkLength -/
def cf_349 : tF := (q31 (q27 (q20 2 (q2 1 0) (q2 0 0)) (fun _ _ => none)) q48)
def cm_349 : tC := qm 2 [0, 0] 0 9 cf_349
theorem sf_349 (d : Nat) (h : 0 ≤ d) : EF L xs d FF tr_349 cf_349 := (s_31 (s_27 (s_20 s_2 s_2) ux) s_48)
theorem sm_349 (d : Nat) (h : 1 ≤ d) : CM L xs d FF 349 cm_349 := by
  obtain ⟨e, rfl⟩ : ∃ e, d = e + 1 := ⟨d - 1, by omega⟩
  exact s_m rfl (sf_349 e (by omega)) rfl
/-- String.length -/
def cf_1 : tF := (q47 (q3 9 (q7 2 (q5 0 0 (q2 0 2))) (q8 cm_2 (q58 (q2 0 2) q30))))
def cm_1 : tC := qm 1 [2] 1 0 cf_1
theorem sf_1 (d : Nat) (h : 1 ≤ d) : EF L xs d FF tr_1 cf_1 := (s_47 (s_3 (s_7 (s_5 s_2)) (s_8 (sm_2 d (by omega)) (s_58 s_2 s_57))))
theorem sm_1 (d : Nat) (h : 2 ≤ d) : CM L xs d FF 1 cm_1 := by
  obtain ⟨e, rfl⟩ : ∃ e, d = e + 1 := ⟨d - 1, by omega⟩
  exact s_m rfl (sf_1 e (by omega)) rfl
/-- String.checkIndex -/
def cf_8 : tF := (q31 (q37 (q8 cm_345 (q58 (q2 0 0) (q58 (q2 1 0) (q58 (q0 (-2)) q30))))) q48)
def cm_8 : tC := qm 2 [0, 0] 0 9 cf_8
theorem sf_8 (d : Nat) (h : 1 ≤ d) : EF L xs d FF tr_8 cf_8 := (s_31 (s_37 (s_8 (sm_345 d (by omega)) (s_58 s_2 (s_58 s_2 (s_58 s_16 s_57))))) s_48)
theorem sm_8 (d : Nat) (h : 2 ≤ d) : CM L xs d FF 8 cm_8 := by
  obtain ⟨e, rfl⟩ : ∃ e, d = e + 1 := ⟨d - 1, by omega⟩
  exact s_m rfl (sf_8 e (by omega)) rfl
/-- String.checkBoundsBeginEnd -/
def cf_9 : tF := (q31 (q37 (q8 cm_346 (q58 (q2 0 0) (q58 (q2 1 0) (q58 (q2 2 0) (q58 (q0 (-2)) q30)))))) q48)
def cm_9 : tC := qm 3 [0, 0, 0] 0 9 cf_9
theorem sf_9 (d : Nat) (h : 1 ≤ d) : EF L xs d FF tr_9 cf_9 := (s_31 (s_37 (s_8 (sm_346 d (by omega)) (s_58 s_2 (s_58 s_2 (s_58 s_2 (s_58 s_16 s_57)))))) s_48)
theorem sm_9 (d : Nat) (h : 2 ≤ d) : CM L xs d FF 9 cm_9 := by
  obtain ⟨e, rfl⟩ : ∃ e, d = e + 1 := ⟨d - 1, by omega⟩
  exact s_m rfl (sf_9 e (by omega)) rfl
def cm_113 : tC := gp
theorem sm_113 (d : Nat) (h : 2 ≤ d) : CM L xs d FF 113 cm_113 := gp_ok h
/-- GatedPile$Net.becomeRow -/
def cf_123 : tF := (q31 (q31 (q32 3 0 (q0 0)) (q41 FF (q20 2 (q2 3 0) (q7 0 (q2 2 2))) (q36 (q8 cm_122 (q58 (q2 0 2) (q58 (q3 0 (q2 1 0) (q2 3 0)) (q58 (q6 0 (q2 2 2) (q2 3 0)) q30))))) (q33 3 1))) q48)
def cm_123 : tC := qm 4 [2, 0, 2] 7 9 cf_123
theorem sf_123 (d : Nat) (h : 1 ≤ d) : EF L xs d FF tr_123 cf_123 := (s_31 (s_31 (s_32 s_0) (s_41 (s_20 s_2 (s_7 s_2)) (s_36 (s_8 (sm_122 d (by omega)) (s_58 s_2 (s_58 (s_3 s_2 s_2) (s_58 (s_6 s_2 s_2) s_57))))) s_33)) s_48)
theorem sm_123 (d : Nat) (h : 2 ≤ d) : CM L xs d FF 123 cm_123 := by
  obtain ⟨e, rfl⟩ : ∃ e, d = e + 1 := ⟨d - 1, by omega⟩
  exact s_m rfl (sf_123 e (by omega)) rfl
/-- GatedPile$Wiring.numberUpTo -/
def cf_169 : tF := (q31 (q32 1 2 (q12 0 (q0 16))) (q31 (q31 (q32 2 0 (q0 0)) (q41 FF (q20 2 (q2 2 0) (q0 16)) (q35 0 (q2 1 2) (q2 2 0) (q3 0 (q0 18) (q8 cm_344 (q58 (q2 2 0) (q58 (q2 0 0) q30))))) (q33 2 1))) (q47 (q2 1 2))))
def cm_169 : tC := qm 3 [0] 0 2 cf_169
theorem sf_169 (d : Nat) (h : 1 ≤ d) : EF L xs d FF tr_169 cf_169 := (s_31 (s_32 (s_12 s_0)) (s_31 (s_31 (s_32 s_0) (s_41 (s_20 s_2 s_0) (s_35 s_2 s_2 (s_3 s_0 (s_8 (sm_344 d (by omega)) (s_58 s_2 (s_58 s_2 s_57))))) s_33)) (s_47 s_2)))
theorem sm_169 (d : Nat) (h : 2 ≤ d) : CM L xs d FF 169 cm_169 := by
  obtain ⟨e, rfl⟩ : ∃ e, d = e + 1 := ⟨d - 1, by omega⟩
  exact s_m rfl (sf_169 e (by omega)) rfl
/-- GatedPileModel.symbol -/
def cf_199 : tF := (q47 (q9 (q21 1 (q8 cm_200 (q58 (q2 0 0) q30))) (q3 0 (q3 1 (q2 0 0) (q0 97)) (q0 1)) (q3 0 (q3 1 (q2 0 0) (q0 48)) (q0 27))))
def cm_199 : tC := qm 1 [0] 0 0 cf_199
theorem sf_199 (d : Nat) (h : 1 ≤ d) : EF L xs d FF tr_199 cf_199 := (s_47 (s_9 (s_21 (s_8 (sm_200 d (by omega)) (s_58 s_2 s_57))) (s_3 (s_3 s_2 s_0) s_0) (s_3 (s_3 s_2 s_0) s_0)))
theorem sm_199 (d : Nat) (h : 2 ≤ d) : CM L xs d FF 199 cm_199 := by
  obtain ⟨e, rfl⟩ : ∃ e, d = e + 1 := ⟨d - 1, by omega⟩
  exact s_m rfl (sf_199 e (by omega)) rfl
def cm_291 : tC := gn
theorem sm_291 (d : Nat) (h : 2 ≤ d) : CM L xs d FF 291 cm_291 := gn_ok h
/-- Arrays.copyOfRangeByte -/
def cf_348 : tF := (q31 (q36 (q8 cm_349 (q58 (q2 1 0) (q58 (q2 2 0) q30)))) (q31 (q32 3 0 (q3 1 (q2 2 0) (q2 1 0))) (q31 (q32 4 2 (q12 2 (q2 3 0))) (q31 (q60 (q58 (q2 0 2) (q58 (q2 1 0) (q58 (q2 4 2) (q58 (q0 0) (q58 (q8 cm_344 (q58 (q3 1 (q7 2 (q2 0 2)) (q2 1 0)) (q58 (q2 3 0) q30))) q30)))))) (q47 (q2 4 2))))))
def cm_348 : tC := qm 5 [2, 0, 0] 0 2 cf_348
theorem sf_348 (d : Nat) (h : 1 ≤ d) : EF L xs d FF tr_348 cf_348 := (s_31 (s_36 (s_8 (sm_349 d (by omega)) (s_58 s_2 (s_58 s_2 s_57)))) (s_31 (s_32 (s_3 s_2 s_2)) (s_31 (s_32 (s_12 s_2)) (s_31 (s_60 (s_58 s_2 (s_58 s_2 (s_58 s_2 (s_58 s_0 (s_58 (s_8 (sm_344 d (by omega)) (s_58 (s_3 (s_7 s_2) s_2) (s_58 s_2 s_57))) s_57)))))) (s_47 s_2)))))
theorem sm_348 (d : Nat) (h : 2 ≤ d) : CM L xs d FF 348 cm_348 := by
  obtain ⟨e, rfl⟩ : ∃ e, d = e + 1 := ⟨d - 1, by omega⟩
  exact s_m rfl (sf_348 e (by omega)) rfl
/-- GatedPile$Net.not -/
def cf_114 : tF := (q47 (q8 cm_113 (q58 (q2 0 2) (q58 (q2 1 0) (q58 (q2 1 0) q30)))))
def cm_114 : tC := qm 2 [2, 0] 7 0 cf_114
theorem sf_114 (d : Nat) (h : 2 ≤ d) : EF L xs d FF tr_114 cf_114 := (s_47 (s_8 (sm_113 d (by omega)) (s_58 s_2 (s_58 s_2 (s_58 s_2 s_57)))))
theorem sm_114 (d : Nat) (h : 3 ≤ d) : CM L xs d FF 114 cm_114 := by
  obtain ⟨e, rfl⟩ : ∃ e, d = e + 1 := ⟨d - 1, by omega⟩
  exact s_m rfl (sf_114 e (by omega)) rfl
/-- GatedPile$Net.xor -/
def cf_117 : tF := (q31 (q32 3 0 (q8 cm_113 (q58 (q2 0 2) (q58 (q2 1 0) (q58 (q2 2 0) q30))))) (q47 (q8 cm_113 (q58 (q2 0 2) (q58 (q8 cm_113 (q58 (q2 0 2) (q58 (q2 1 0) (q58 (q2 3 0) q30)))) (q58 (q8 cm_113 (q58 (q2 0 2) (q58 (q2 2 0) (q58 (q2 3 0) q30)))) q30))))))
def cm_117 : tC := qm 4 [2, 0, 0] 7 0 cf_117
theorem sf_117 (d : Nat) (h : 2 ≤ d) : EF L xs d FF tr_117 cf_117 := (s_31 (s_32 (s_8 (sm_113 d (by omega)) (s_58 s_2 (s_58 s_2 (s_58 s_2 s_57))))) (s_47 (s_8 (sm_113 d (by omega)) (s_58 s_2 (s_58 (s_8 (sm_113 d (by omega)) (s_58 s_2 (s_58 s_2 (s_58 s_2 s_57)))) (s_58 (s_8 (sm_113 d (by omega)) (s_58 s_2 (s_58 s_2 (s_58 s_2 s_57)))) s_57))))))
theorem sm_117 (d : Nat) (h : 3 ≤ d) : CM L xs d FF 117 cm_117 := by
  obtain ⟨e, rfl⟩ : ∃ e, d = e + 1 := ⟨d - 1, by omega⟩
  exact s_m rfl (sf_117 e (by omega)) rfl
/-- GatedPile$Net.full -/
def cf_119 : tF := (q31 (q32 4 0 (q8 cm_113 (q58 (q2 0 2) (q58 (q2 1 0) (q58 (q2 2 0) q30))))) (q31 (q32 5 0 (q8 cm_113 (q58 (q2 0 2) (q58 (q8 cm_113 (q58 (q2 0 2) (q58 (q2 1 0) (q58 (q2 4 0) q30)))) (q58 (q8 cm_113 (q58 (q2 0 2) (q58 (q2 2 0) (q58 (q2 4 0) q30)))) q30))))) (q31 (q32 6 0 (q8 cm_113 (q58 (q2 0 2) (q58 (q2 5 0) (q58 (q2 3 0) q30))))) (q31 (q32 7 0 (q8 cm_113 (q58 (q2 0 2) (q58 (q8 cm_113 (q58 (q2 0 2) (q58 (q2 5 0) (q58 (q2 6 0) q30)))) (q58 (q8 cm_113 (q58 (q2 0 2) (q58 (q2 3 0) (q58 (q2 6 0) q30)))) q30))))) (q31 (q34 6 7 (q2 0 2) (q8 cm_113 (q58 (q2 0 2) (q58 (q2 4 0) (q58 (q2 6 0) q30))))) (q47 (q2 7 0)))))))
def cm_119 : tC := qm 8 [2, 0, 0, 0] 7 0 cf_119
theorem sf_119 (d : Nat) (h : 2 ≤ d) : EF L xs d FF tr_119 cf_119 := (s_31 (s_32 (s_8 (sm_113 d (by omega)) (s_58 s_2 (s_58 s_2 (s_58 s_2 s_57))))) (s_31 (s_32 (s_8 (sm_113 d (by omega)) (s_58 s_2 (s_58 (s_8 (sm_113 d (by omega)) (s_58 s_2 (s_58 s_2 (s_58 s_2 s_57)))) (s_58 (s_8 (sm_113 d (by omega)) (s_58 s_2 (s_58 s_2 (s_58 s_2 s_57)))) s_57))))) (s_31 (s_32 (s_8 (sm_113 d (by omega)) (s_58 s_2 (s_58 s_2 (s_58 s_2 s_57))))) (s_31 (s_32 (s_8 (sm_113 d (by omega)) (s_58 s_2 (s_58 (s_8 (sm_113 d (by omega)) (s_58 s_2 (s_58 s_2 (s_58 s_2 s_57)))) (s_58 (s_8 (sm_113 d (by omega)) (s_58 s_2 (s_58 s_2 (s_58 s_2 s_57)))) s_57))))) (s_31 (s_34 s_2 (s_8 (sm_113 d (by omega)) (s_58 s_2 (s_58 s_2 (s_58 s_2 s_57))))) (s_47 s_2))))))
theorem sm_119 (d : Nat) (h : 3 ≤ d) : CM L xs d FF 119 cm_119 := by
  obtain ⟨e, rfl⟩ : ∃ e, d = e + 1 := ⟨d - 1, by omega⟩
  exact s_m rfl (sf_119 e (by omega)) rfl
/-- GatedPileModel.not -/
def cf_292 : tF := (q47 (q8 cm_291 (q58 (q2 0 2) (q58 (q2 1 0) (q58 (q2 1 0) q30)))))
def cm_292 : tC := qm 2 [2, 0] 12 0 cf_292
theorem sf_292 (d : Nat) (h : 2 ≤ d) : EF L xs d FF tr_292 cf_292 := (s_47 (s_8 (sm_291 d (by omega)) (s_58 s_2 (s_58 s_2 (s_58 s_2 s_57)))))
theorem sm_292 (d : Nat) (h : 3 ≤ d) : CM L xs d FF 292 cm_292 := by
  obtain ⟨e, rfl⟩ : ∃ e, d = e + 1 := ⟨d - 1, by omega⟩
  exact s_m rfl (sf_292 e (by omega)) rfl
/-- GatedPileModel.xor -/
def cf_295 : tF := (q31 (q32 3 0 (q8 cm_291 (q58 (q2 0 2) (q58 (q2 1 0) (q58 (q2 2 0) q30))))) (q31 (q32 4 0 (q8 cm_291 (q58 (q2 0 2) (q58 (q2 1 0) (q58 (q2 3 0) q30))))) (q31 (q32 5 0 (q8 cm_291 (q58 (q2 0 2) (q58 (q2 2 0) (q58 (q2 3 0) q30))))) (q47 (q8 cm_291 (q58 (q2 0 2) (q58 (q2 4 0) (q58 (q2 5 0) q30))))))))
def cm_295 : tC := qm 6 [2, 0, 0] 12 0 cf_295
theorem sf_295 (d : Nat) (h : 2 ≤ d) : EF L xs d FF tr_295 cf_295 := (s_31 (s_32 (s_8 (sm_291 d (by omega)) (s_58 s_2 (s_58 s_2 (s_58 s_2 s_57))))) (s_31 (s_32 (s_8 (sm_291 d (by omega)) (s_58 s_2 (s_58 s_2 (s_58 s_2 s_57))))) (s_31 (s_32 (s_8 (sm_291 d (by omega)) (s_58 s_2 (s_58 s_2 (s_58 s_2 s_57))))) (s_47 (s_8 (sm_291 d (by omega)) (s_58 s_2 (s_58 s_2 (s_58 s_2 s_57))))))))
theorem sm_295 (d : Nat) (h : 3 ≤ d) : CM L xs d FF 295 cm_295 := by
  obtain ⟨e, rfl⟩ : ∃ e, d = e + 1 := ⟨d - 1, by omega⟩
  exact s_m rfl (sf_295 e (by omega)) rfl
/-- GatedPileModel.sums -/
def cf_297 : tF := (q31 (q32 4 2 (q12 0 (q0 16))) (q31 (q32 5 0 (q2 3 0)) (q31 (q31 (q32 6 0 (q0 0)) (q41 FF (q20 2 (q2 6 0) (q0 16)) (q31 (q32 7 0 (q8 cm_291 (q58 (q2 0 2) (q58 (q6 0 (q2 1 2) (q2 6 0)) (q58 (q6 0 (q2 2 2) (q2 6 0)) q30))))) (q31 (q32 8 0 (q8 cm_291 (q58 (q2 0 2) (q58 (q6 0 (q2 1 2) (q2 6 0)) (q58 (q2 7 0) q30))))) (q31 (q32 9 0 (q8 cm_291 (q58 (q2 0 2) (q58 (q6 0 (q2 2 2) (q2 6 0)) (q58 (q2 7 0) q30))))) (q31 (q32 10 0 (q8 cm_291 (q58 (q2 0 2) (q58 (q2 8 0) (q58 (q2 9 0) q30))))) (q31 (q32 11 0 (q8 cm_291 (q58 (q2 0 2) (q58 (q2 10 0) (q58 (q2 5 0) q30))))) (q31 (q32 12 0 (q8 cm_291 (q58 (q2 0 2) (q58 (q2 10 0) (q58 (q2 11 0) q30))))) (q31 (q32 13 0 (q8 cm_291 (q58 (q2 0 2) (q58 (q2 5 0) (q58 (q2 11 0) q30))))) (q31 (q35 0 (q2 4 2) (q2 6 0) (q8 cm_291 (q58 (q2 0 2) (q58 (q2 12 0) (q58 (q2 13 0) q30))))) (q32 5 0 (q8 cm_291 (q58 (q2 0 2) (q58 (q2 7 0) (q58 (q2 11 0) q30))))))))))))) (q33 6 1))) (q47 (q2 4 2)))))
def cm_297 : tC := qm 14 [2, 2, 2, 0] 12 2 cf_297
theorem sf_297 (d : Nat) (h : 2 ≤ d) : EF L xs d FF tr_297 cf_297 := (s_31 (s_32 (s_12 s_0)) (s_31 (s_32 s_2) (s_31 (s_31 (s_32 s_0) (s_41 (s_20 s_2 s_0) (s_31 (s_32 (s_8 (sm_291 d (by omega)) (s_58 s_2 (s_58 (s_6 s_2 s_2) (s_58 (s_6 s_2 s_2) s_57))))) (s_31 (s_32 (s_8 (sm_291 d (by omega)) (s_58 s_2 (s_58 (s_6 s_2 s_2) (s_58 s_2 s_57))))) (s_31 (s_32 (s_8 (sm_291 d (by omega)) (s_58 s_2 (s_58 (s_6 s_2 s_2) (s_58 s_2 s_57))))) (s_31 (s_32 (s_8 (sm_291 d (by omega)) (s_58 s_2 (s_58 s_2 (s_58 s_2 s_57))))) (s_31 (s_32 (s_8 (sm_291 d (by omega)) (s_58 s_2 (s_58 s_2 (s_58 s_2 s_57))))) (s_31 (s_32 (s_8 (sm_291 d (by omega)) (s_58 s_2 (s_58 s_2 (s_58 s_2 s_57))))) (s_31 (s_32 (s_8 (sm_291 d (by omega)) (s_58 s_2 (s_58 s_2 (s_58 s_2 s_57))))) (s_31 (s_35 s_2 s_2 (s_8 (sm_291 d (by omega)) (s_58 s_2 (s_58 s_2 (s_58 s_2 s_57))))) (s_32 (s_8 (sm_291 d (by omega)) (s_58 s_2 (s_58 s_2 (s_58 s_2 s_57))))))))))))) s_33)) (s_47 s_2))))
theorem sm_297 (d : Nat) (h : 3 ≤ d) : CM L xs d FF 297 cm_297 := by
  obtain ⟨e, rfl⟩ : ∃ e, d = e + 1 := ⟨d - 1, by omega⟩
  exact s_m rfl (sf_297 e (by omega)) rfl
/-- StringLatin1.charAt -/
def cf_335 : tF := (q31 (q36 (q8 cm_8 (q58 (q2 1 0) (q58 (q7 2 (q2 0 2)) q30)))) (q47 (q4 4 (q3 5 (q6 2 (q2 0 2) (q2 1 0)) (q0 255)))))
def cm_335 : tC := qm 2 [2, 0] 0 5 cf_335
theorem sf_335 (d : Nat) (h : 2 ≤ d) : EF L xs d FF tr_335 cf_335 := (s_31 (s_36 (s_8 (sm_8 d (by omega)) (s_58 s_2 (s_58 (s_7 s_2) s_57)))) (s_47 (s_4 (s_3 (s_6 s_2 s_2) s_0))))
theorem sm_335 (d : Nat) (h : 3 ≤ d) : CM L xs d FF 335 cm_335 := by
  obtain ⟨e, rfl⟩ : ∃ e, d = e + 1 := ⟨d - 1, by omega⟩
  exact s_m rfl (sf_335 e (by omega)) rfl
/-- Arrays.copyOfRange -/
def cf_347 : tF := (q9 (q24 (q21 1 (q2 1 0)) (q20 1 (q2 2 0) (q7 2 (q2 0 2)))) (q47 (q8 cm_348 (q58 (q2 0 2) (q58 (q2 1 0) (q58 (q2 2 0) q30))))) (fun _ _ => none))
def cm_347 : tC := qm 3 [2, 0, 0] 0 2 cf_347
theorem sf_347 (d : Nat) (h : 2 ≤ d) : EF L xs d FF tr_347 cf_347 := (s_39 (s_24 (s_21 s_2) (s_20 s_2 (s_7 s_2))) (s_47 (s_8 (sm_348 d (by omega)) (s_58 s_2 (s_58 s_2 (s_58 s_2 s_57))))) ux)
theorem sm_347 (d : Nat) (h : 3 ≤ d) : CM L xs d FF 347 cm_347 := by
  obtain ⟨e, rfl⟩ : ∃ e, d = e + 1 := ⟨d - 1, by omega⟩
  exact s_m rfl (sf_347 e (by omega)) rfl
/-- String.charAt -/
def cf_4 : tF := (q40 (q21 1 (q8 cm_3 (q58 (q2 0 2) q30))) (q47 (q8 cm_335 (q58 (q5 0 0 (q2 0 2)) (q58 (q2 1 0) q30)))) (q47 (fun _ _ => none)))
def cm_4 : tC := qm 2 [2, 0] 1 5 cf_4
theorem sf_4 (d : Nat) (h : 3 ≤ d) : EF L xs d FF tr_4 cf_4 := (s_40 (s_21 (s_8 (sm_3 d (by omega)) (s_58 s_2 s_57))) (s_47 (s_8 (sm_335 d (by omega)) (s_58 (s_5 s_2) (s_58 s_2 s_57)))) (s_47 ux))
theorem sm_4 (d : Nat) (h : 4 ≤ d) : CM L xs d FF 4 cm_4 := by
  obtain ⟨e, rfl⟩ : ∃ e, d = e + 1 := ⟨d - 1, by omega⟩
  exact s_m rfl (sf_4 e (by omega)) rfl
/-- GatedPile$Net.and -/
def cf_115 : tF := (q47 (q8 cm_114 (q58 (q2 0 2) (q58 (q8 cm_113 (q58 (q2 0 2) (q58 (q2 1 0) (q58 (q2 2 0) q30)))) q30))))
def cm_115 : tC := qm 3 [2, 0, 0] 7 0 cf_115
theorem sf_115 (d : Nat) (h : 3 ≤ d) : EF L xs d FF tr_115 cf_115 := (s_47 (s_8 (sm_114 d (by omega)) (s_58 s_2 (s_58 (s_8 (sm_113 d (by omega)) (s_58 s_2 (s_58 s_2 (s_58 s_2 s_57)))) s_57))))
theorem sm_115 (d : Nat) (h : 4 ≤ d) : CM L xs d FF 115 cm_115 := by
  obtain ⟨e, rfl⟩ : ∃ e, d = e + 1 := ⟨d - 1, by omega⟩
  exact s_m rfl (sf_115 e (by omega)) rfl
/-- GatedPile$Net.or -/
def cf_116 : tF := (q47 (q8 cm_113 (q58 (q2 0 2) (q58 (q8 cm_114 (q58 (q2 0 2) (q58 (q2 1 0) q30))) (q58 (q8 cm_114 (q58 (q2 0 2) (q58 (q2 2 0) q30))) q30)))))
def cm_116 : tC := qm 3 [2, 0, 0] 7 0 cf_116
theorem sf_116 (d : Nat) (h : 3 ≤ d) : EF L xs d FF tr_116 cf_116 := (s_47 (s_8 (sm_113 d (by omega)) (s_58 s_2 (s_58 (s_8 (sm_114 d (by omega)) (s_58 s_2 (s_58 s_2 s_57))) (s_58 (s_8 (sm_114 d (by omega)) (s_58 s_2 (s_58 s_2 s_57))) s_57)))))
theorem sm_116 (d : Nat) (h : 4 ≤ d) : CM L xs d FF 116 cm_116 := by
  obtain ⟨e, rfl⟩ : ∃ e, d = e + 1 := ⟨d - 1, by omega⟩
  exact s_m rfl (sf_116 e (by omega)) rfl
/-- GatedPile$Net.mux -/
def cf_118 : tF := (q31 (q32 4 0 (q8 cm_114 (q58 (q2 0 2) (q58 (q2 1 0) q30)))) (q47 (q8 cm_113 (q58 (q2 0 2) (q58 (q8 cm_113 (q58 (q2 0 2) (q58 (q2 2 0) (q58 (q2 4 0) q30)))) (q58 (q8 cm_113 (q58 (q2 0 2) (q58 (q2 3 0) (q58 (q2 1 0) q30)))) q30))))))
def cm_118 : tC := qm 5 [2, 0, 0, 0] 7 0 cf_118
theorem sf_118 (d : Nat) (h : 3 ≤ d) : EF L xs d FF tr_118 cf_118 := (s_31 (s_32 (s_8 (sm_114 d (by omega)) (s_58 s_2 (s_58 s_2 s_57)))) (s_47 (s_8 (sm_113 d (by omega)) (s_58 s_2 (s_58 (s_8 (sm_113 d (by omega)) (s_58 s_2 (s_58 s_2 (s_58 s_2 s_57)))) (s_58 (s_8 (sm_113 d (by omega)) (s_58 s_2 (s_58 s_2 (s_58 s_2 s_57)))) s_57))))))
theorem sm_118 (d : Nat) (h : 4 ≤ d) : CM L xs d FF 118 cm_118 := by
  obtain ⟨e, rfl⟩ : ∃ e, d = e + 1 := ⟨d - 1, by omega⟩
  exact s_m rfl (sf_118 e (by omega)) rfl
/-- GatedPile$Net.sums -/
def cf_120 : tF := (q31 (q32 4 2 (q12 0 (q0 16))) (q31 (q34 6 7 (q2 0 2) (q2 3 0)) (q31 (q31 (q32 5 0 (q0 0)) (q41 FF (q23 (q23 (q20 2 (q2 5 0) (q0 16)) (q20 2 (q2 5 0) (q7 0 (q2 1 2)))) (q20 2 (q2 5 0) (q7 0 (q2 2 2)))) (q35 0 (q2 4 2) (q2 5 0) (q8 cm_119 (q58 (q2 0 2) (q58 (q6 0 (q2 1 2) (q2 5 0)) (q58 (q6 0 (q2 2 2) (q2 5 0)) (q58 (q5 6 7 (q2 0 2)) q30)))))) (q33 5 1))) (q47 (q2 4 2)))))
def cm_120 : tC := qm 6 [2, 2, 2, 0] 7 2 cf_120
theorem sf_120 (d : Nat) (h : 3 ≤ d) : EF L xs d FF tr_120 cf_120 := (s_31 (s_32 (s_12 s_0)) (s_31 (s_34 s_2 s_2) (s_31 (s_31 (s_32 s_0) (s_41 (s_23 (s_23 (s_20 s_2 s_0) (s_20 s_2 (s_7 s_2))) (s_20 s_2 (s_7 s_2))) (s_35 s_2 s_2 (s_8 (sm_119 d (by omega)) (s_58 s_2 (s_58 (s_6 s_2 s_2) (s_58 (s_6 s_2 s_2) (s_58 (s_5 s_2) s_57)))))) s_33)) (s_47 s_2))))
theorem sm_120 (d : Nat) (h : 4 ≤ d) : CM L xs d FF 120 cm_120 := by
  obtain ⟨e, rfl⟩ : ∃ e, d = e + 1 := ⟨d - 1, by omega⟩
  exact s_m rfl (sf_120 e (by omega)) rfl
/-- GatedPileModel.and -/
def cf_293 : tF := (q47 (q8 cm_292 (q58 (q2 0 2) (q58 (q8 cm_291 (q58 (q2 0 2) (q58 (q2 1 0) (q58 (q2 2 0) q30)))) q30))))
def cm_293 : tC := qm 3 [2, 0, 0] 12 0 cf_293
theorem sf_293 (d : Nat) (h : 3 ≤ d) : EF L xs d FF tr_293 cf_293 := (s_47 (s_8 (sm_292 d (by omega)) (s_58 s_2 (s_58 (s_8 (sm_291 d (by omega)) (s_58 s_2 (s_58 s_2 (s_58 s_2 s_57)))) s_57))))
theorem sm_293 (d : Nat) (h : 4 ≤ d) : CM L xs d FF 293 cm_293 := by
  obtain ⟨e, rfl⟩ : ∃ e, d = e + 1 := ⟨d - 1, by omega⟩
  exact s_m rfl (sf_293 e (by omega)) rfl
/-- GatedPileModel.or -/
def cf_294 : tF := (q31 (q32 3 0 (q8 cm_292 (q58 (q2 0 2) (q58 (q2 1 0) q30)))) (q31 (q32 4 0 (q8 cm_292 (q58 (q2 0 2) (q58 (q2 2 0) q30)))) (q47 (q8 cm_291 (q58 (q2 0 2) (q58 (q2 3 0) (q58 (q2 4 0) q30)))))))
def cm_294 : tC := qm 5 [2, 0, 0] 12 0 cf_294
theorem sf_294 (d : Nat) (h : 3 ≤ d) : EF L xs d FF tr_294 cf_294 := (s_31 (s_32 (s_8 (sm_292 d (by omega)) (s_58 s_2 (s_58 s_2 s_57)))) (s_31 (s_32 (s_8 (sm_292 d (by omega)) (s_58 s_2 (s_58 s_2 s_57)))) (s_47 (s_8 (sm_291 d (by omega)) (s_58 s_2 (s_58 s_2 (s_58 s_2 s_57)))))))
theorem sm_294 (d : Nat) (h : 4 ≤ d) : CM L xs d FF 294 cm_294 := by
  obtain ⟨e, rfl⟩ : ∃ e, d = e + 1 := ⟨d - 1, by omega⟩
  exact s_m rfl (sf_294 e (by omega)) rfl
/-- GatedPileModel.mux -/
def cf_296 : tF := (q31 (q32 4 0 (q8 cm_292 (q58 (q2 0 2) (q58 (q2 1 0) q30)))) (q31 (q32 5 0 (q8 cm_291 (q58 (q2 0 2) (q58 (q2 2 0) (q58 (q2 4 0) q30))))) (q31 (q32 6 0 (q8 cm_291 (q58 (q2 0 2) (q58 (q2 3 0) (q58 (q2 1 0) q30))))) (q47 (q8 cm_291 (q58 (q2 0 2) (q58 (q2 5 0) (q58 (q2 6 0) q30))))))))
def cm_296 : tC := qm 7 [2, 0, 0, 0] 12 0 cf_296
theorem sf_296 (d : Nat) (h : 3 ≤ d) : EF L xs d FF tr_296 cf_296 := (s_31 (s_32 (s_8 (sm_292 d (by omega)) (s_58 s_2 (s_58 s_2 s_57)))) (s_31 (s_32 (s_8 (sm_291 d (by omega)) (s_58 s_2 (s_58 s_2 (s_58 s_2 s_57))))) (s_31 (s_32 (s_8 (sm_291 d (by omega)) (s_58 s_2 (s_58 s_2 (s_58 s_2 s_57))))) (s_47 (s_8 (sm_291 d (by omega)) (s_58 s_2 (s_58 s_2 (s_58 s_2 s_57))))))))
theorem sm_296 (d : Nat) (h : 4 ≤ d) : CM L xs d FF 296 cm_296 := by
  obtain ⟨e, rfl⟩ : ∃ e, d = e + 1 := ⟨d - 1, by omega⟩
  exact s_m rfl (sf_296 e (by omega)) rfl
/-- StringLatin1.newString -/
def cf_339 : tF := (q31 (q38 (q21 0 (q2 2 0)) (q47 (q0 48))) (q47 (q10 0 cm_0 (q58 (q8 cm_347 (q58 (q2 0 2) (q58 (q2 1 0) (q58 (q3 0 (q2 1 0) (q2 2 0)) q30)))) (q58 (q0 0) q30)))))
def cm_339 : tC := qm 3 [2, 0, 0] 0 2 cf_339
theorem sf_339 (d : Nat) (h : 3 ≤ d) : EF L xs d FF tr_339 cf_339 := (s_31 (s_38 (s_21 s_2) (s_47 s_17)) (s_47 (s_10 (sm_0 d (by omega)) (s_58 (s_8 (sm_347 d (by omega)) (s_58 s_2 (s_58 s_2 (s_58 (s_3 s_2 s_2) s_57)))) (s_58 s_0 s_57)))))
theorem sm_339 (d : Nat) (h : 4 ≤ d) : CM L xs d FF 339 cm_339 := by
  obtain ⟨e, rfl⟩ : ∃ e, d = e + 1 := ⟨d - 1, by omega⟩
  exact s_m rfl (sf_339 e (by omega)) rfl
/-- String.substring -/
def cf_7 : tF := (q31 (q32 3 0 (q8 cm_1 (q58 (q2 0 2) q30))) (q31 (q36 (q8 cm_9 (q58 (q2 1 0) (q58 (q2 2 0) (q58 (q2 3 0) q30))))) (q31 (q38 (q23 (q21 0 (q2 1 0)) (q20 0 (q2 2 0) (q2 3 0))) (q47 (q2 0 2))) (q31 (q32 4 0 (q3 1 (q2 2 0) (q2 1 0))) (q47 (q9 (q21 1 (q8 cm_3 (q58 (q2 0 2) q30))) (q8 cm_339 (q58 (q5 0 0 (q2 0 2)) (q58 (q2 1 0) (q58 (q2 4 0) q30)))) (fun _ _ => none)))))))
def cm_7 : tC := qm 5 [2, 0, 0] 1 2 cf_7
theorem sf_7 (d : Nat) (h : 4 ≤ d) : EF L xs d FF tr_7 cf_7 := (s_31 (s_32 (s_8 (sm_1 d (by omega)) (s_58 s_2 s_57))) (s_31 (s_36 (s_8 (sm_9 d (by omega)) (s_58 s_2 (s_58 s_2 (s_58 s_2 s_57))))) (s_31 (s_38 (s_23 (s_21 s_2) (s_20 s_2 s_2)) (s_47 s_2)) (s_31 (s_32 (s_3 s_2 s_2)) (s_47 (s_9 (s_21 (s_8 (sm_3 d (by omega)) (s_58 s_2 s_57))) (s_8 (sm_339 d (by omega)) (s_58 (s_5 s_2) (s_58 s_2 (s_58 s_2 s_57)))) ux))))))
theorem sm_7 (d : Nat) (h : 5 ≤ d) : CM L xs d FF 7 cm_7 := by
  obtain ⟨e, rfl⟩ : ∃ e, d = e + 1 := ⟨d - 1, by omega⟩
  exact s_m rfl (sf_7 e (by omega)) rfl
/-- GatedPile$Net.muxRow -/
def cf_121 : tF := (q31 (q32 4 2 (q12 0 (q0 16))) (q31 (q31 (q32 5 0 (q0 0)) (q41 FF (q23 (q23 (q20 2 (q2 5 0) (q0 16)) (q20 2 (q2 5 0) (q7 0 (q2 2 2)))) (q20 2 (q2 5 0) (q7 0 (q2 3 2)))) (q35 0 (q2 4 2) (q2 5 0) (q8 cm_118 (q58 (q2 0 2) (q58 (q2 1 0) (q58 (q6 0 (q2 2 2) (q2 5 0)) (q58 (q6 0 (q2 3 2) (q2 5 0)) q30)))))) (q33 5 1))) (q47 (q2 4 2))))
def cm_121 : tC := qm 6 [2, 0, 2, 2] 7 2 cf_121
theorem sf_121 (d : Nat) (h : 4 ≤ d) : EF L xs d FF tr_121 cf_121 := (s_31 (s_32 (s_12 s_0)) (s_31 (s_31 (s_32 s_0) (s_41 (s_23 (s_23 (s_20 s_2 s_0) (s_20 s_2 (s_7 s_2))) (s_20 s_2 (s_7 s_2))) (s_35 s_2 s_2 (s_8 (sm_118 d (by omega)) (s_58 s_2 (s_58 s_2 (s_58 (s_6 s_2 s_2) (s_58 (s_6 s_2 s_2) s_57)))))) s_33)) (s_47 s_2)))
theorem sm_121 (d : Nat) (h : 5 ≤ d) : CM L xs d FF 121 cm_121 := by
  obtain ⟨e, rfl⟩ : ∃ e, d = e + 1 := ⟨d - 1, by omega⟩
  exact s_m rfl (sf_121 e (by omega)) rfl
/-- GatedPile$Tops.codeOf -/
def cf_145 : tF := (q31 (q32 1 1 (q0 0)) (q31 (q31 (q32 3 0 (q0 0)) (q41 FF (q20 2 (q2 3 0) (q8 cm_1 (q58 (q2 0 2) q30))) (q32 1 1 (q8 cm_144 (q58 (q2 1 1) (q58 (q8 cm_4 (q58 (q2 0 2) (q58 (q2 3 0) q30))) q30)))) (q33 3 1))) (q47 (q2 1 1))))
def cm_145 : tC := qm 4 [2] 0 1 cf_145
theorem sf_145 (d : Nat) (h : 4 ≤ d) : EF L xs d FF tr_145 cf_145 := (s_31 (s_32 s_1) (s_31 (s_31 (s_32 s_0) (s_41 (s_20 s_2 (s_8 (sm_1 d (by omega)) (s_58 s_2 s_57))) (s_32 (s_8 (sm_144 d (by omega)) (s_58 s_2 (s_58 (s_8 (sm_4 d (by omega)) (s_58 s_2 (s_58 s_2 s_57))) s_57)))) s_33)) (s_47 s_2)))
theorem sm_145 (d : Nat) (h : 5 ≤ d) : CM L xs d FF 145 cm_145 := by
  obtain ⟨e, rfl⟩ : ∃ e, d = e + 1 := ⟨d - 1, by omega⟩
  exact s_m rfl (sf_145 e (by omega)) rfl
/-- GatedPile$Wiring.port -/
def cf_167 : tF := (q31 (q32 2 0 (q3 0 (q2 1 0) (q0 1))) (q31 (q32 3 0 (q3 0 (q2 1 0) (q0 2))) (q31 (q32 4 2 (q12 0 (q0 16))) (q31 (q31 (q32 5 0 (q0 0)) (q41 FF (q20 2 (q2 5 0) (q0 16)) (q35 0 (q2 4 2) (q2 5 0) (q8 cm_118 (q58 (q5 9 0 (q2 0 2)) (q58 (q2 3 0) (q58 (q8 cm_118 (q58 (q5 9 0 (q2 0 2)) (q58 (q2 2 0) (q58 (q8 cm_118 (q58 (q5 9 0 (q2 0 2)) (q58 (q2 1 0) (q58 (q8 cm_166 (q58 (q2 0 2) (q58 (q0 0) (q58 (q2 5 0) q30)))) (q58 (q8 cm_166 (q58 (q2 0 2) (q58 (q0 1) (q58 (q2 5 0) q30)))) q30))))) (q58 (q8 cm_118 (q58 (q5 9 0 (q2 0 2)) (q58 (q2 1 0) (q58 (q8 cm_166 (q58 (q2 0 2) (q58 (q0 2) (q58 (q2 5 0) q30)))) (q58 (q8 cm_166 (q58 (q2 0 2) (q58 (q0 3) (q58 (q2 5 0) q30)))) q30))))) q30))))) (q58 (q8 cm_118 (q58 (q5 9 0 (q2 0 2)) (q58 (q2 2 0) (q58 (q8 cm_118 (q58 (q5 9 0 (q2 0 2)) (q58 (q2 1 0) (q58 (q8 cm_166 (q58 (q2 0 2) (q58 (q0 4) (q58 (q2 5 0) q30)))) (q58 (q8 cm_166 (q58 (q2 0 2) (q58 (q0 5) (q58 (q2 5 0) q30)))) q30))))) (q58 (q8 cm_118 (q58 (q5 9 0 (q2 0 2)) (q58 (q2 1 0) (q58 (q8 cm_166 (q58 (q2 0 2) (q58 (q0 6) (q58 (q2 5 0) q30)))) (q58 (q8 cm_166 (q58 (q2 0 2) (q58 (q0 7) (q58 (q2 5 0) q30)))) q30))))) q30))))) q30)))))) (q33 5 1))) (q47 (q2 4 2))))))
def cm_167 : tC := qm 6 [2, 0] 10 2 cf_167
theorem sf_167 (d : Nat) (h : 4 ≤ d) : EF L xs d FF tr_167 cf_167 := (s_31 (s_32 (s_3 s_2 s_0)) (s_31 (s_32 (s_3 s_2 s_0)) (s_31 (s_32 (s_12 s_0)) (s_31 (s_31 (s_32 s_0) (s_41 (s_20 s_2 s_0) (s_35 s_2 s_2 (s_8 (sm_118 d (by omega)) (s_58 (s_5 s_2) (s_58 s_2 (s_58 (s_8 (sm_118 d (by omega)) (s_58 (s_5 s_2) (s_58 s_2 (s_58 (s_8 (sm_118 d (by omega)) (s_58 (s_5 s_2) (s_58 s_2 (s_58 (s_8 (sm_166 d (by omega)) (s_58 s_2 (s_58 s_0 (s_58 s_2 s_57)))) (s_58 (s_8 (sm_166 d (by omega)) (s_58 s_2 (s_58 s_0 (s_58 s_2 s_57)))) s_57))))) (s_58 (s_8 (sm_118 d (by omega)) (s_58 (s_5 s_2) (s_58 s_2 (s_58 (s_8 (sm_166 d (by omega)) (s_58 s_2 (s_58 s_0 (s_58 s_2 s_57)))) (s_58 (s_8 (sm_166 d (by omega)) (s_58 s_2 (s_58 s_0 (s_58 s_2 s_57)))) s_57))))) s_57))))) (s_58 (s_8 (sm_118 d (by omega)) (s_58 (s_5 s_2) (s_58 s_2 (s_58 (s_8 (sm_118 d (by omega)) (s_58 (s_5 s_2) (s_58 s_2 (s_58 (s_8 (sm_166 d (by omega)) (s_58 s_2 (s_58 s_0 (s_58 s_2 s_57)))) (s_58 (s_8 (sm_166 d (by omega)) (s_58 s_2 (s_58 s_0 (s_58 s_2 s_57)))) s_57))))) (s_58 (s_8 (sm_118 d (by omega)) (s_58 (s_5 s_2) (s_58 s_2 (s_58 (s_8 (sm_166 d (by omega)) (s_58 s_2 (s_58 s_0 (s_58 s_2 s_57)))) (s_58 (s_8 (sm_166 d (by omega)) (s_58 s_2 (s_58 s_0 (s_58 s_2 s_57)))) s_57))))) s_57))))) s_57)))))) s_33)) (s_47 s_2)))))
theorem sm_167 (d : Nat) (h : 5 ≤ d) : CM L xs d FF 167 cm_167 := by
  obtain ⟨e, rfl⟩ : ∃ e, d = e + 1 := ⟨d - 1, by omega⟩
  exact s_m rfl (sf_167 e (by omega)) rfl
/-- GatedPile$Wiring.makeOps -/
def cf_170 : tF := (q31 (q31 (q32 1 0 (q0 0)) (q41 FF (q20 2 (q2 1 0) (q0 4)) (q35 0 (q5 9 4 (q2 0 2)) (q2 1 0) (q8 cm_114 (q58 (q5 9 0 (q2 0 2)) (q58 (q3 0 (q0 30) (q2 1 0)) q30)))) (q33 1 1))) (q31 (q31 (q32 1 0 (q0 0)) (q41 FF (q20 2 (q2 1 0) (q0 16)) (q35 0 (q5 9 5 (q2 0 2)) (q2 1 0) (q8 cm_115 (q58 (q5 9 0 (q2 0 2)) (q58 (q8 cm_115 (q58 (q5 9 0 (q2 0 2)) (q58 (q8 cm_171 (q58 (q2 0 2) (q58 (q2 1 0) (q58 (q0 0) q30)))) (q58 (q8 cm_171 (q58 (q2 0 2) (q58 (q2 1 0) (q58 (q0 1) q30)))) q30)))) (q58 (q8 cm_115 (q58 (q5 9 0 (q2 0 2)) (q58 (q8 cm_171 (q58 (q2 0 2) (q58 (q2 1 0) (q58 (q0 2) q30)))) (q58 (q8 cm_171 (q58 (q2 0 2) (q58 (q2 1 0) (q58 (q0 3) q30)))) q30)))) q30))))) (q33 1 1))) q48))
def cm_170 : tC := qm 2 [2] 10 9 cf_170
theorem sf_170 (d : Nat) (h : 4 ≤ d) : EF L xs d FF tr_170 cf_170 := (s_31 (s_31 (s_32 s_0) (s_41 (s_20 s_2 s_0) (s_35 (s_5 s_2) s_2 (s_8 (sm_114 d (by omega)) (s_58 (s_5 s_2) (s_58 (s_3 s_0 s_2) s_57)))) s_33)) (s_31 (s_31 (s_32 s_0) (s_41 (s_20 s_2 s_0) (s_35 (s_5 s_2) s_2 (s_8 (sm_115 d (by omega)) (s_58 (s_5 s_2) (s_58 (s_8 (sm_115 d (by omega)) (s_58 (s_5 s_2) (s_58 (s_8 (sm_171 d (by omega)) (s_58 s_2 (s_58 s_2 (s_58 s_0 s_57)))) (s_58 (s_8 (sm_171 d (by omega)) (s_58 s_2 (s_58 s_2 (s_58 s_0 s_57)))) s_57)))) (s_58 (s_8 (sm_115 d (by omega)) (s_58 (s_5 s_2) (s_58 (s_8 (sm_171 d (by omega)) (s_58 s_2 (s_58 s_2 (s_58 s_0 s_57)))) (s_58 (s_8 (sm_171 d (by omega)) (s_58 s_2 (s_58 s_2 (s_58 s_0 s_57)))) s_57)))) s_57))))) s_33)) s_48))
theorem sm_170 (d : Nat) (h : 5 ≤ d) : CM L xs d FF 170 cm_170 := by
  obtain ⟨e, rfl⟩ : ∃ e, d = e + 1 := ⟨d - 1, by omega⟩
  exact s_m rfl (sf_170 e (by omega)) rfl
/-- GatedPile$Wiring.makeStates -/
def cf_172 : tF := (q31 (q32 1 0 (q0 66)) (q31 (q32 2 0 (q0 67)) (q31 (q32 3 0 (q8 cm_114 (q58 (q5 9 0 (q2 0 2)) (q58 (q2 1 0) q30)))) (q31 (q32 4 0 (q8 cm_114 (q58 (q5 9 0 (q2 0 2)) (q58 (q2 2 0) q30)))) (q31 (q34 9 6 (q2 0 2) (q8 cm_115 (q58 (q5 9 0 (q2 0 2)) (q58 (q2 3 0) (q58 (q2 4 0) q30))))) (q31 (q34 9 7 (q2 0 2) (q8 cm_115 (q58 (q5 9 0 (q2 0 2)) (q58 (q2 1 0) (q58 (q2 4 0) q30))))) (q31 (q34 9 8 (q2 0 2) (q8 cm_115 (q58 (q5 9 0 (q2 0 2)) (q58 (q2 3 0) (q58 (q2 2 0) q30))))) (q31 (q37 (q8 cm_115 (q58 (q5 9 0 (q2 0 2)) (q58 (q2 1 0) (q58 (q2 2 0) q30))))) q48))))))))
def cm_172 : tC := qm 5 [2] 10 9 cf_172
theorem sf_172 (d : Nat) (h : 4 ≤ d) : EF L xs d FF tr_172 cf_172 := (s_31 (s_32 s_0) (s_31 (s_32 s_0) (s_31 (s_32 (s_8 (sm_114 d (by omega)) (s_58 (s_5 s_2) (s_58 s_2 s_57)))) (s_31 (s_32 (s_8 (sm_114 d (by omega)) (s_58 (s_5 s_2) (s_58 s_2 s_57)))) (s_31 (s_34 s_2 (s_8 (sm_115 d (by omega)) (s_58 (s_5 s_2) (s_58 s_2 (s_58 s_2 s_57))))) (s_31 (s_34 s_2 (s_8 (sm_115 d (by omega)) (s_58 (s_5 s_2) (s_58 s_2 (s_58 s_2 s_57))))) (s_31 (s_34 s_2 (s_8 (sm_115 d (by omega)) (s_58 (s_5 s_2) (s_58 s_2 (s_58 s_2 s_57))))) (s_31 (s_37 (s_8 (sm_115 d (by omega)) (s_58 (s_5 s_2) (s_58 s_2 (s_58 s_2 s_57))))) s_48))))))))
theorem sm_172 (d : Nat) (h : 5 ≤ d) : CM L xs d FF 172 cm_172 := by
  obtain ⟨e, rfl⟩ : ∃ e, d = e + 1 := ⟨d - 1, by omega⟩
  exact s_m rfl (sf_172 e (by omega)) rfl
/-- GatedPileModel.packed -/
def cf_198 : tF := (q31 (q32 1 1 (q0 0)) (q31 (q31 (q32 3 0 (q0 0)) (q41 FF (q20 2 (q2 3 0) (q8 cm_1 (q58 (q2 0 2) q30))) (q32 1 1 (q3 11 (q3 12 (q0 37) (q2 1 1)) (q4 1 (q8 cm_199 (q58 (q8 cm_4 (q58 (q2 0 2) (q58 (q2 3 0) q30))) q30))))) (q33 3 1))) (q47 (q2 1 1))))
def cm_198 : tC := qm 4 [2] 0 1 cf_198
theorem sf_198 (d : Nat) (h : 4 ≤ d) : EF L xs d FF tr_198 cf_198 := (s_31 (s_32 s_1) (s_31 (s_31 (s_32 s_0) (s_41 (s_20 s_2 (s_8 (sm_1 d (by omega)) (s_58 s_2 s_57))) (s_32 (s_3 (s_3 s_1 s_2) (s_4 (s_8 (sm_199 d (by omega)) (s_58 (s_8 (sm_4 d (by omega)) (s_58 s_2 (s_58 s_2 s_57))) s_57))))) s_33)) (s_47 s_2)))
theorem sm_198 (d : Nat) (h : 5 ≤ d) : CM L xs d FF 198 cm_198 := by
  obtain ⟨e, rfl⟩ : ∃ e, d = e + 1 := ⟨d - 1, by omega⟩
  exact s_m rfl (sf_198 e (by omega)) rfl
/-- GatedPileModel.port -/
def cf_300 : tF := (q31 (q32 4 2 (q12 0 (q0 16))) (q31 (q31 (q32 5 0 (q0 0)) (q41 FF (q20 2 (q2 5 0) (q0 16)) (q31 (q32 6 0 (q8 cm_296 (q58 (q2 0 2) (q58 (q2 1 0) (q58 (q8 cm_299 (q58 (q0 0) (q58 (q2 5 0) q30))) (q58 (q8 cm_299 (q58 (q0 1) (q58 (q2 5 0) q30))) q30)))))) (q31 (q32 7 0 (q8 cm_296 (q58 (q2 0 2) (q58 (q2 1 0) (q58 (q8 cm_299 (q58 (q0 2) (q58 (q2 5 0) q30))) (q58 (q8 cm_299 (q58 (q0 3) (q58 (q2 5 0) q30))) q30)))))) (q31 (q32 8 0 (q8 cm_296 (q58 (q2 0 2) (q58 (q2 2 0) (q58 (q2 6 0) (q58 (q2 7 0) q30)))))) (q31 (q32 9 0 (q8 cm_296 (q58 (q2 0 2) (q58 (q2 1 0) (q58 (q8 cm_299 (q58 (q0 4) (q58 (q2 5 0) q30))) (q58 (q8 cm_299 (q58 (q0 5) (q58 (q2 5 0) q30))) q30)))))) (q31 (q32 10 0 (q8 cm_296 (q58 (q2 0 2) (q58 (q2 1 0) (q58 (q8 cm_299 (q58 (q0 6) (q58 (q2 5 0) q30))) (q58 (q8 cm_299 (q58 (q0 7) (q58 (q2 5 0) q30))) q30)))))) (q31 (q32 11 0 (q8 cm_296 (q58 (q2 0 2) (q58 (q2 2 0) (q58 (q2 9 0) (q58 (q2 10 0) q30)))))) (q35 0 (q2 4 2) (q2 5 0) (q8 cm_296 (q58 (q2 0 2) (q58 (q2 3 0) (q58 (q2 8 0) (q58 (q2 11 0) q30)))))))))))) (q33 5 1))) (q47 (q2 4 2))))
def cm_300 : tC := qm 12 [2, 0, 0, 0] 12 2 cf_300
theorem sf_300 (d : Nat) (h : 4 ≤ d) : EF L xs d FF tr_300 cf_300 := (s_31 (s_32 (s_12 s_0)) (s_31 (s_31 (s_32 s_0) (s_41 (s_20 s_2 s_0) (s_31 (s_32 (s_8 (sm_296 d (by omega)) (s_58 s_2 (s_58 s_2 (s_58 (s_8 (sm_299 d (by omega)) (s_58 s_0 (s_58 s_2 s_57))) (s_58 (s_8 (sm_299 d (by omega)) (s_58 s_0 (s_58 s_2 s_57))) s_57)))))) (s_31 (s_32 (s_8 (sm_296 d (by omega)) (s_58 s_2 (s_58 s_2 (s_58 (s_8 (sm_299 d (by omega)) (s_58 s_0 (s_58 s_2 s_57))) (s_58 (s_8 (sm_299 d (by omega)) (s_58 s_0 (s_58 s_2 s_57))) s_57)))))) (s_31 (s_32 (s_8 (sm_296 d (by omega)) (s_58 s_2 (s_58 s_2 (s_58 s_2 (s_58 s_2 s_57)))))) (s_31 (s_32 (s_8 (sm_296 d (by omega)) (s_58 s_2 (s_58 s_2 (s_58 (s_8 (sm_299 d (by omega)) (s_58 s_0 (s_58 s_2 s_57))) (s_58 (s_8 (sm_299 d (by omega)) (s_58 s_0 (s_58 s_2 s_57))) s_57)))))) (s_31 (s_32 (s_8 (sm_296 d (by omega)) (s_58 s_2 (s_58 s_2 (s_58 (s_8 (sm_299 d (by omega)) (s_58 s_0 (s_58 s_2 s_57))) (s_58 (s_8 (sm_299 d (by omega)) (s_58 s_0 (s_58 s_2 s_57))) s_57)))))) (s_31 (s_32 (s_8 (sm_296 d (by omega)) (s_58 s_2 (s_58 s_2 (s_58 s_2 (s_58 s_2 s_57)))))) (s_35 s_2 s_2 (s_8 (sm_296 d (by omega)) (s_58 s_2 (s_58 s_2 (s_58 s_2 (s_58 s_2 s_57)))))))))))) s_33)) (s_47 s_2)))
theorem sm_300 (d : Nat) (h : 5 ≤ d) : CM L xs d FF 300 cm_300 := by
  obtain ⟨e, rfl⟩ : ∃ e, d = e + 1 := ⟨d - 1, by omega⟩
  exact s_m rfl (sf_300 e (by omega)) rfl
/-- GatedPileModel.muxes -/
def cf_301 : tF := (q31 (q32 4 2 (q12 0 (q0 16))) (q31 (q31 (q32 5 0 (q0 0)) (q41 FF (q20 2 (q2 5 0) (q0 16)) (q35 0 (q2 4 2) (q2 5 0) (q8 cm_296 (q58 (q2 0 2) (q58 (q2 1 0) (q58 (q6 0 (q2 2 2) (q2 5 0)) (q58 (q6 0 (q2 3 2) (q2 5 0)) q30)))))) (q33 5 1))) (q47 (q2 4 2))))
def cm_301 : tC := qm 6 [2, 0, 2, 2] 12 2 cf_301
theorem sf_301 (d : Nat) (h : 4 ≤ d) : EF L xs d FF tr_301 cf_301 := (s_31 (s_32 (s_12 s_0)) (s_31 (s_31 (s_32 s_0) (s_41 (s_20 s_2 s_0) (s_35 s_2 s_2 (s_8 (sm_296 d (by omega)) (s_58 s_2 (s_58 s_2 (s_58 (s_6 s_2 s_2) (s_58 (s_6 s_2 s_2) s_57)))))) s_33)) (s_47 s_2)))
theorem sm_301 (d : Nat) (h : 5 ≤ d) : CM L xs d FF 301 cm_301 := by
  obtain ⟨e, rfl⟩ : ∃ e, d = e + 1 := ⟨d - 1, by omega⟩
  exact s_m rfl (sf_301 e (by omega)) rfl
/-- GatedPileModel.makeOps -/
def cf_303 : tF := (q31 (q31 (q32 2 0 (q0 0)) (q41 FF (q20 2 (q2 2 0) (q0 16)) (q31 (q32 3 2 (q12 0 (q0 4))) (q31 (q31 (q32 4 0 (q0 0)) (q41 FF (q20 2 (q2 4 0) (q0 4)) (q35 0 (q2 3 2) (q2 4 0) (q9 (q20 0 (q3 5 (q3 9 (q2 2 0) (q2 4 0)) (q0 1)) (q0 1)) (q3 0 (q0 30) (q2 4 0)) (q6 0 (q2 1 2) (q2 4 0)))) (q33 4 1))) (q31 (q32 4 0 (q8 cm_293 (q58 (q2 0 2) (q58 (q6 0 (q2 3 2) (q0 0)) (q58 (q6 0 (q2 3 2) (q0 1)) q30))))) (q31 (q32 5 0 (q8 cm_293 (q58 (q2 0 2) (q58 (q6 0 (q2 3 2) (q0 2)) (q58 (q6 0 (q2 3 2) (q0 3)) q30))))) (q35 0 (q5 11 92 (q2 0 2)) (q2 2 0) (q8 cm_293 (q58 (q2 0 2) (q58 (q2 4 0) (q58 (q2 5 0) q30))))))))) (q33 2 1))) q48)
def cm_303 : tC := qm 6 [2, 2] 12 9 cf_303
theorem sf_303 (d : Nat) (h : 4 ≤ d) : EF L xs d FF tr_303 cf_303 := (s_31 (s_31 (s_32 s_0) (s_41 (s_20 s_2 s_0) (s_31 (s_32 (s_12 s_0)) (s_31 (s_31 (s_32 s_0) (s_41 (s_20 s_2 s_0) (s_35 s_2 s_2 (s_9 (s_20 (s_3 (s_3 s_2 s_2) s_0) s_0) (s_3 s_0 s_2) (s_6 s_2 s_2))) s_33)) (s_31 (s_32 (s_8 (sm_293 d (by omega)) (s_58 s_2 (s_58 (s_6 s_2 s_0) (s_58 (s_6 s_2 s_0) s_57))))) (s_31 (s_32 (s_8 (sm_293 d (by omega)) (s_58 s_2 (s_58 (s_6 s_2 s_0) (s_58 (s_6 s_2 s_0) s_57))))) (s_35 (s_5 s_2) s_2 (s_8 (sm_293 d (by omega)) (s_58 s_2 (s_58 s_2 (s_58 s_2 s_57))))))))) s_33)) s_48)
theorem sm_303 (d : Nat) (h : 5 ≤ d) : CM L xs d FF 303 cm_303 := by
  obtain ⟨e, rfl⟩ : ∃ e, d = e + 1 := ⟨d - 1, by omega⟩
  exact s_m rfl (sf_303 e (by omega)) rfl
/-- GatedPile$Text.<init> -/
def cf_125 : tF := (q31 q56 (q31 (q34 7 0 (q2 0 2) (q12 2 (q0 3000))) (q31 (q34 7 2 (q2 0 2) (q12 0 (q0 3001))) (q31 (q34 7 3 (q2 0 2) (q12 0 (q0 3001))) (q31 (q34 7 4 (q2 0 2) (q12 0 (q0 3001))) (q31 (q34 7 6 (q2 0 2) (q13 1 13 (q14 0 (q8 cm_145 (q58 (q0 6) q30)) (q14 1 (q8 cm_145 (q58 (q0 8) q30)) (q14 2 (q8 cm_145 (q58 (q0 10) q30)) (q14 3 (q8 cm_145 (q58 (q0 12) q30)) (q14 4 (q8 cm_145 (q58 (q0 14) q30)) (q14 5 (q8 cm_145 (q58 (q0 16) q30)) (q14 6 (q8 cm_145 (q58 (q0 18) q30)) (q14 7 (q8 cm_145 (q58 (q0 20) q30)) (q14 8 (q8 cm_145 (q58 (q0 22) q30)) (q14 9 (q8 cm_145 (q58 (q0 24) q30)) (q14 10 (q8 cm_145 (q58 (q0 26) q30)) (q14 11 (q8 cm_145 (q58 (q0 28) q30)) (q14 12 (q8 cm_145 (q58 (q0 30) q30)) q30))))))))))))))) q48))))))
def cm_125 : tC := qm 1 [2] 0 9 cf_125
theorem sf_125 (d : Nat) (h : 5 ≤ d) : EF L xs d FF tr_125 cf_125 := (s_31 s_56 (s_31 (s_34 s_2 (s_12 s_0)) (s_31 (s_34 s_2 (s_12 s_0)) (s_31 (s_34 s_2 (s_12 s_0)) (s_31 (s_34 s_2 (s_12 s_0)) (s_31 (s_34 s_2 (s_13 (s_14 (s_8 (sm_145 d (by omega)) (s_58 s_17 s_57)) (s_14 (s_8 (sm_145 d (by omega)) (s_58 s_17 s_57)) (s_14 (s_8 (sm_145 d (by omega)) (s_58 s_17 s_57)) (s_14 (s_8 (sm_145 d (by omega)) (s_58 s_17 s_57)) (s_14 (s_8 (sm_145 d (by omega)) (s_58 s_17 s_57)) (s_14 (s_8 (sm_145 d (by omega)) (s_58 s_17 s_57)) (s_14 (s_8 (sm_145 d (by omega)) (s_58 s_17 s_57)) (s_14 (s_8 (sm_145 d (by omega)) (s_58 s_17 s_57)) (s_14 (s_8 (sm_145 d (by omega)) (s_58 s_17 s_57)) (s_14 (s_8 (sm_145 d (by omega)) (s_58 s_17 s_57)) (s_14 (s_8 (sm_145 d (by omega)) (s_58 s_17 s_57)) (s_14 (s_8 (sm_145 d (by omega)) (s_58 s_17 s_57)) (s_14 (s_8 (sm_145 d (by omega)) (s_58 s_17 s_57)) s_30))))))))))))))) s_48))))))
theorem sm_125 (d : Nat) (h : 6 ≤ d) : CM L xs d FF 125 cm_125 := by
  obtain ⟨e, rfl⟩ : ∃ e, d = e + 1 := ⟨d - 1, by omega⟩
  exact s_m rfl (sf_125 e (by omega)) rfl
/-- GatedPile$Wiring.makeSum -/
def cf_173 : tF := (q31 (q32 1 0 (q8 cm_116 (q58 (q5 9 0 (q2 0 2)) (q58 (q8 cm_116 (q58 (q5 9 0 (q2 0 2)) (q58 (q6 0 (q5 9 5 (q2 0 2)) (q0 8)) (q58 (q6 0 (q5 9 5 (q2 0 2)) (q0 9)) q30)))) (q58 (q6 0 (q5 9 5 (q2 0 2)) (q0 10)) q30))))) (q31 (q32 2 2 (q8 cm_121 (q58 (q5 9 0 (q2 0 2)) (q58 (q2 1 0) (q58 (q5 9 2 (q2 0 2)) (q58 (q8 cm_169 (q58 (q0 5) q30)) q30)))))) (q31 (q32 3 0 (q8 cm_116 (q58 (q5 9 0 (q2 0 2)) (q58 (q6 0 (q5 9 5 (q2 0 2)) (q0 1)) (q58 (q6 0 (q5 9 5 (q2 0 2)) (q0 4)) q30))))) (q31 (q32 4 2 (q12 0 (q0 16))) (q31 (q31 (q32 5 0 (q0 0)) (q41 FF (q20 2 (q2 5 0) (q0 16)) (q35 0 (q2 4 2) (q2 5 0) (q8 cm_117 (q58 (q5 9 0 (q2 0 2)) (q58 (q2 3 0) (q58 (q6 0 (q2 2 2) (q2 5 0)) q30))))) (q33 5 1))) (q31 (q34 9 9 (q2 0 2) (q8 cm_120 (q58 (q5 9 0 (q2 0 2)) (q58 (q5 9 1 (q2 0 2)) (q58 (q2 4 2) (q58 (q2 3 0) q30)))))) (q31 (q34 9 10 (q2 0 2) (q8 cm_118 (q58 (q5 9 0 (q2 0 2)) (q58 (q8 cm_117 (q58 (q5 9 0 (q2 0 2)) (q58 (q6 0 (q5 9 1 (q2 0 2)) (q0 15)) (q58 (q6 0 (q2 2 2) (q0 15)) q30)))) (q58 (q6 0 (q5 9 9 (q2 0 2)) (q0 15)) (q58 (q6 0 (q5 9 1 (q2 0 2)) (q0 15)) q30)))))) q48)))))))
def cm_173 : tC := qm 6 [2] 10 9 cf_173
theorem sf_173 (d : Nat) (h : 5 ≤ d) : EF L xs d FF tr_173 cf_173 := (s_31 (s_32 (s_8 (sm_116 d (by omega)) (s_58 (s_5 s_2) (s_58 (s_8 (sm_116 d (by omega)) (s_58 (s_5 s_2) (s_58 (s_6 (s_5 s_2) s_0) (s_58 (s_6 (s_5 s_2) s_0) s_57)))) (s_58 (s_6 (s_5 s_2) s_0) s_57))))) (s_31 (s_32 (s_8 (sm_121 d (by omega)) (s_58 (s_5 s_2) (s_58 s_2 (s_58 (s_5 s_2) (s_58 (s_8 (sm_169 d (by omega)) (s_58 s_0 s_57)) s_57)))))) (s_31 (s_32 (s_8 (sm_116 d (by omega)) (s_58 (s_5 s_2) (s_58 (s_6 (s_5 s_2) s_0) (s_58 (s_6 (s_5 s_2) s_0) s_57))))) (s_31 (s_32 (s_12 s_0)) (s_31 (s_31 (s_32 s_0) (s_41 (s_20 s_2 s_0) (s_35 s_2 s_2 (s_8 (sm_117 d (by omega)) (s_58 (s_5 s_2) (s_58 s_2 (s_58 (s_6 s_2 s_2) s_57))))) s_33)) (s_31 (s_34 s_2 (s_8 (sm_120 d (by omega)) (s_58 (s_5 s_2) (s_58 (s_5 s_2) (s_58 s_2 (s_58 s_2 s_57)))))) (s_31 (s_34 s_2 (s_8 (sm_118 d (by omega)) (s_58 (s_5 s_2) (s_58 (s_8 (sm_117 d (by omega)) (s_58 (s_5 s_2) (s_58 (s_6 (s_5 s_2) s_0) (s_58 (s_6 s_2 s_0) s_57)))) (s_58 (s_6 (s_5 s_2) s_0) (s_58 (s_6 (s_5 s_2) s_0) s_57)))))) s_48)))))))
theorem sm_173 (d : Nat) (h : 6 ≤ d) : CM L xs d FF 173 cm_173 := by
  obtain ⟨e, rfl⟩ : ∃ e, d = e + 1 := ⟨d - 1, by omega⟩
  exact s_m rfl (sf_173 e (by omega)) rfl
/-- GatedPile$Wiring.makeResult -/
def cf_174 : tF := (q31 (q32 1 2 (q12 0 (q0 16))) (q31 (q32 2 2 (q12 0 (q0 16))) (q31 (q31 (q32 3 0 (q0 0)) (q41 FF (q20 2 (q2 3 0) (q0 16)) (q35 0 (q2 1 2) (q2 3 0) (q8 cm_115 (q58 (q5 9 0 (q2 0 2)) (q58 (q6 0 (q5 9 1 (q2 0 2)) (q2 3 0)) (q58 (q6 0 (q5 9 2 (q2 0 2)) (q2 3 0)) q30))))) (q33 3 1))) (q31 (q31 (q32 3 0 (q0 0)) (q41 FF (q20 2 (q2 3 0) (q0 16)) (q35 0 (q2 2 2) (q2 3 0) (q8 cm_117 (q58 (q5 9 0 (q2 0 2)) (q58 (q6 0 (q5 9 1 (q2 0 2)) (q2 3 0)) (q58 (q6 0 (q5 9 2 (q2 0 2)) (q2 3 0)) q30))))) (q33 3 1))) (q31 (q32 3 2 (q12 0 (q0 16))) (q31 (q35 0 (q2 3 2) (q0 0) (q5 9 10 (q2 0 2))) (q31 (q32 4 2 (q12 0 (q0 16))) (q31 (q59 (q58 (q5 9 1 (q2 0 2)) (q58 (q0 1) (q58 (q2 4 2) (q58 (q0 0) (q58 (q0 15) q30)))))) (q31 (q32 5 2 (q12 0 (q0 16))) (q31 (q31 (q32 6 0 (q0 0)) (q41 FF (q20 2 (q2 6 0) (q0 8)) (q31 (q35 0 (q2 5 2) (q2 6 0) (q6 0 (q5 9 3 (q2 0 2)) (q2 6 0))) (q35 0 (q2 5 2) (q3 0 (q2 6 0) (q0 8)) (q3 0 (q0 18) (q2 6 0)))) (q33 6 1))) (q31 (q34 9 11 (q2 0 2) (q8 cm_121 (q58 (q5 9 0 (q2 0 2)) (q58 (q6 0 (q5 9 5 (q2 0 2)) (q0 2)) (q58 (q5 9 9 (q2 0 2)) (q58 (q2 1 2) q30)))))) (q31 (q34 9 11 (q2 0 2) (q8 cm_121 (q58 (q5 9 0 (q2 0 2)) (q58 (q6 0 (q5 9 5 (q2 0 2)) (q0 3)) (q58 (q5 9 11 (q2 0 2)) (q58 (q2 2 2) q30)))))) (q31 (q34 9 11 (q2 0 2) (q8 cm_121 (q58 (q5 9 0 (q2 0 2)) (q58 (q6 0 (q5 9 5 (q2 0 2)) (q0 4)) (q58 (q5 9 11 (q2 0 2)) (q58 (q2 3 2) q30)))))) (q31 (q34 9 11 (q2 0 2) (q8 cm_121 (q58 (q5 9 0 (q2 0 2)) (q58 (q6 0 (q5 9 5 (q2 0 2)) (q0 5)) (q58 (q5 9 11 (q2 0 2)) (q58 (q2 4 2) q30)))))) (q31 (q34 9 11 (q2 0 2) (q8 cm_121 (q58 (q5 9 0 (q2 0 2)) (q58 (q6 0 (q5 9 5 (q2 0 2)) (q0 6)) (q58 (q5 9 11 (q2 0 2)) (q58 (q8 cm_169 (q58 (q0 8) q30)) q30)))))) (q31 (q34 9 11 (q2 0 2) (q8 cm_121 (q58 (q5 9 0 (q2 0 2)) (q58 (q6 0 (q5 9 5 (q2 0 2)) (q0 7)) (q58 (q5 9 11 (q2 0 2)) (q58 (q2 5 2) q30)))))) (q31 (q34 9 11 (q2 0 2) (q8 cm_121 (q58 (q5 9 0 (q2 0 2)) (q58 (q6 0 (q5 9 5 (q2 0 2)) (q0 13)) (q58 (q5 9 11 (q2 0 2)) (q58 (q8 cm_168 (q58 (q0 2) q30)) q30)))))) (q31 (q34 9 11 (q2 0 2) (q8 cm_121 (q58 (q5 9 0 (q2 0 2)) (q58 (q5 9 8 (q2 0 2)) (q58 (q5 9 11 (q2 0 2)) (q58 (q8 cm_168 (q58 (q0 196) q30)) q30)))))) q48))))))))))))))))))
def cm_174 : tC := qm 7 [2] 10 9 cf_174
theorem sf_174 (d : Nat) (h : 5 ≤ d) : EF L xs d FF tr_174 cf_174 := (s_31 (s_32 (s_12 s_0)) (s_31 (s_32 (s_12 s_0)) (s_31 (s_31 (s_32 s_0) (s_41 (s_20 s_2 s_0) (s_35 s_2 s_2 (s_8 (sm_115 d (by omega)) (s_58 (s_5 s_2) (s_58 (s_6 (s_5 s_2) s_2) (s_58 (s_6 (s_5 s_2) s_2) s_57))))) s_33)) (s_31 (s_31 (s_32 s_0) (s_41 (s_20 s_2 s_0) (s_35 s_2 s_2 (s_8 (sm_117 d (by omega)) (s_58 (s_5 s_2) (s_58 (s_6 (s_5 s_2) s_2) (s_58 (s_6 (s_5 s_2) s_2) s_57))))) s_33)) (s_31 (s_32 (s_12 s_0)) (s_31 (s_35 s_2 s_0 (s_5 s_2)) (s_31 (s_32 (s_12 s_0)) (s_31 (s_59 (s_58 (s_5 s_2) (s_58 s_0 (s_58 s_2 (s_58 s_0 (s_58 s_0 s_57)))))) (s_31 (s_32 (s_12 s_0)) (s_31 (s_31 (s_32 s_0) (s_41 (s_20 s_2 s_0) (s_31 (s_35 s_2 s_2 (s_6 (s_5 s_2) s_2)) (s_35 s_2 (s_3 s_2 s_0) (s_3 s_0 s_2))) s_33)) (s_31 (s_34 s_2 (s_8 (sm_121 d (by omega)) (s_58 (s_5 s_2) (s_58 (s_6 (s_5 s_2) s_0) (s_58 (s_5 s_2) (s_58 s_2 s_57)))))) (s_31 (s_34 s_2 (s_8 (sm_121 d (by omega)) (s_58 (s_5 s_2) (s_58 (s_6 (s_5 s_2) s_0) (s_58 (s_5 s_2) (s_58 s_2 s_57)))))) (s_31 (s_34 s_2 (s_8 (sm_121 d (by omega)) (s_58 (s_5 s_2) (s_58 (s_6 (s_5 s_2) s_0) (s_58 (s_5 s_2) (s_58 s_2 s_57)))))) (s_31 (s_34 s_2 (s_8 (sm_121 d (by omega)) (s_58 (s_5 s_2) (s_58 (s_6 (s_5 s_2) s_0) (s_58 (s_5 s_2) (s_58 s_2 s_57)))))) (s_31 (s_34 s_2 (s_8 (sm_121 d (by omega)) (s_58 (s_5 s_2) (s_58 (s_6 (s_5 s_2) s_0) (s_58 (s_5 s_2) (s_58 (s_8 (sm_169 d (by omega)) (s_58 s_0 s_57)) s_57)))))) (s_31 (s_34 s_2 (s_8 (sm_121 d (by omega)) (s_58 (s_5 s_2) (s_58 (s_6 (s_5 s_2) s_0) (s_58 (s_5 s_2) (s_58 s_2 s_57)))))) (s_31 (s_34 s_2 (s_8 (sm_121 d (by omega)) (s_58 (s_5 s_2) (s_58 (s_6 (s_5 s_2) s_0) (s_58 (s_5 s_2) (s_58 (s_8 (sm_168 d (by omega)) (s_58 s_0 s_57)) s_57)))))) (s_31 (s_34 s_2 (s_8 (sm_121 d (by omega)) (s_58 (s_5 s_2) (s_58 (s_5 s_2) (s_58 (s_5 s_2) (s_58 (s_8 (sm_168 d (by omega)) (s_58 s_0 s_57)) s_57)))))) s_48))))))))))))))))))
theorem sm_174 (d : Nat) (h : 6 ≤ d) : CM L xs d FF 174 cm_174 := by
  obtain ⟨e, rfl⟩ : ∃ e, d = e + 1 := ⟨d - 1, by omega⟩
  exact s_m rfl (sf_174 e (by omega)) rfl
/-- GatedPile$Wiring.makeNext -/
def cf_175 : tF := (q31 (q34 9 12 (q2 0 2) (q8 cm_120 (q58 (q5 9 0 (q2 0 2)) (q58 (q8 cm_168 (q58 (q0 2) q30)) (q58 (q12 0 (q0 16)) (q58 (q0 1) q30)))))) (q31 (q32 1 0 (q6 0 (q5 9 3 (q2 0 2)) (q0 0))) (q31 (q31 (q32 2 0 (q0 1)) (q41 FF (q20 2 (q2 2 0) (q0 16)) (q32 1 0 (q8 cm_116 (q58 (q5 9 0 (q2 0 2)) (q58 (q2 1 0) (q58 (q6 0 (q5 9 3 (q2 0 2)) (q2 2 0)) q30))))) (q33 2 1))) (q31 (q32 2 0 (q8 cm_114 (q58 (q5 9 0 (q2 0 2)) (q58 (q2 1 0) q30)))) (q31 (q32 3 0 (q8 cm_116 (q58 (q5 9 0 (q2 0 2)) (q58 (q8 cm_115 (q58 (q5 9 0 (q2 0 2)) (q58 (q6 0 (q5 9 5 (q2 0 2)) (q0 11)) (q58 (q2 2 0) q30)))) (q58 (q8 cm_115 (q58 (q5 9 0 (q2 0 2)) (q58 (q6 0 (q5 9 5 (q2 0 2)) (q0 12)) (q58 (q6 0 (q5 9 3 (q2 0 2)) (q0 15)) q30)))) q30))))) (q31 (q32 4 0 (q8 cm_116 (q58 (q5 9 0 (q2 0 2)) (q58 (q2 3 0) (q58 (q6 0 (q5 9 5 (q2 0 2)) (q0 14)) q30))))) (q31 (q32 5 2 (q12 0 (q0 16))) (q31 (q31 (q32 6 0 (q0 0)) (q41 FF (q20 2 (q2 6 0) (q0 16)) (q35 0 (q2 5 2) (q2 6 0) (q8 cm_115 (q58 (q5 9 0 (q2 0 2)) (q58 (q2 4 0) (q58 (q8 cm_118 (q58 (q5 9 0 (q2 0 2)) (q58 (q6 0 (q5 9 5 (q2 0 2)) (q0 14)) (q58 (q3 0 (q0 18) (q8 cm_344 (q58 (q2 6 0) (q58 (q0 8) q30)))) (q58 (q3 0 (q0 18) (q8 cm_344 (q58 (q2 6 0) (q58 (q0 11) q30)))) q30))))) q30))))) (q33 6 1))) (q31 (q34 9 13 (q2 0 2) (q8 cm_120 (q58 (q5 9 0 (q2 0 2)) (q58 (q8 cm_168 (q58 (q0 2) q30)) (q58 (q2 5 2) (q58 (q0 0) q30)))))) (q31 (q34 9 13 (q2 0 2) (q8 cm_121 (q58 (q5 9 0 (q2 0 2)) (q58 (q6 0 (q5 9 5 (q2 0 2)) (q0 13)) (q58 (q5 9 13 (q2 0 2)) (q58 (q5 9 1 (q2 0 2)) q30)))))) q48))))))))))
def cm_175 : tC := qm 7 [2] 10 9 cf_175
theorem sf_175 (d : Nat) (h : 5 ≤ d) : EF L xs d FF tr_175 cf_175 := (s_31 (s_34 s_2 (s_8 (sm_120 d (by omega)) (s_58 (s_5 s_2) (s_58 (s_8 (sm_168 d (by omega)) (s_58 s_0 s_57)) (s_58 (s_12 s_0) (s_58 s_0 s_57)))))) (s_31 (s_32 (s_6 (s_5 s_2) s_0)) (s_31 (s_31 (s_32 s_0) (s_41 (s_20 s_2 s_0) (s_32 (s_8 (sm_116 d (by omega)) (s_58 (s_5 s_2) (s_58 s_2 (s_58 (s_6 (s_5 s_2) s_2) s_57))))) s_33)) (s_31 (s_32 (s_8 (sm_114 d (by omega)) (s_58 (s_5 s_2) (s_58 s_2 s_57)))) (s_31 (s_32 (s_8 (sm_116 d (by omega)) (s_58 (s_5 s_2) (s_58 (s_8 (sm_115 d (by omega)) (s_58 (s_5 s_2) (s_58 (s_6 (s_5 s_2) s_0) (s_58 s_2 s_57)))) (s_58 (s_8 (sm_115 d (by omega)) (s_58 (s_5 s_2) (s_58 (s_6 (s_5 s_2) s_0) (s_58 (s_6 (s_5 s_2) s_0) s_57)))) s_57))))) (s_31 (s_32 (s_8 (sm_116 d (by omega)) (s_58 (s_5 s_2) (s_58 s_2 (s_58 (s_6 (s_5 s_2) s_0) s_57))))) (s_31 (s_32 (s_12 s_0)) (s_31 (s_31 (s_32 s_0) (s_41 (s_20 s_2 s_0) (s_35 s_2 s_2 (s_8 (sm_115 d (by omega)) (s_58 (s_5 s_2) (s_58 s_2 (s_58 (s_8 (sm_118 d (by omega)) (s_58 (s_5 s_2) (s_58 (s_6 (s_5 s_2) s_0) (s_58 (s_3 s_0 (s_8 (sm_344 d (by omega)) (s_58 s_2 (s_58 s_0 s_57)))) (s_58 (s_3 s_0 (s_8 (sm_344 d (by omega)) (s_58 s_2 (s_58 s_0 s_57)))) s_57))))) s_57))))) s_33)) (s_31 (s_34 s_2 (s_8 (sm_120 d (by omega)) (s_58 (s_5 s_2) (s_58 (s_8 (sm_168 d (by omega)) (s_58 s_0 s_57)) (s_58 s_2 (s_58 s_0 s_57)))))) (s_31 (s_34 s_2 (s_8 (sm_121 d (by omega)) (s_58 (s_5 s_2) (s_58 (s_6 (s_5 s_2) s_0) (s_58 (s_5 s_2) (s_58 (s_5 s_2) s_57)))))) s_48))))))))))
theorem sm_175 (d : Nat) (h : 6 ≤ d) : CM L xs d FF 175 cm_175 := by
  obtain ⟨e, rfl⟩ : ∃ e, d = e + 1 := ⟨d - 1, by omega⟩
  exact s_m rfl (sf_175 e (by omega)) rfl
/-- GatedPile$Wiring.makeFlipFlops -/
def cf_176 : tF := (q31 (q31 (q32 1 0 (q0 0)) (q41 FF (q20 2 (q2 1 0) (q0 16)) (q36 (q8 cm_122 (q58 (q5 9 0 (q2 0 2)) (q58 (q3 0 (q0 2) (q2 1 0)) (q58 (q8 cm_118 (q58 (q5 9 0 (q2 0 2)) (q58 (q5 9 7 (q2 0 2)) (q58 (q8 cm_118 (q58 (q5 9 0 (q2 0 2)) (q58 (q5 9 6 (q2 0 2)) (q58 (q3 0 (q0 2) (q2 1 0)) (q58 (q6 0 (q5 9 12 (q2 0 2)) (q2 1 0)) q30))))) (q58 (q6 0 (q5 9 13 (q2 0 2)) (q2 1 0)) q30))))) q30))))) (q33 1 1))) (q31 (q36 (q8 cm_123 (q58 (q5 9 0 (q2 0 2)) (q58 (q0 18) (q58 (q8 cm_121 (q58 (q5 9 0 (q2 0 2)) (q58 (q5 9 6 (q2 0 2)) (q58 (q8 cm_168 (q58 (q0 18) q30)) (q58 (q8 cm_168 (q58 (q0 196) q30)) q30))))) q30))))) (q31 (q32 1 0 (q8 cm_116 (q58 (q5 9 0 (q2 0 2)) (q58 (q6 0 (q5 9 5 (q2 0 2)) (q0 8)) (q58 (q6 0 (q5 9 5 (q2 0 2)) (q0 9)) q30))))) (q31 (q31 (q32 2 0 (q0 0)) (q41 FF (q20 2 (q2 2 0) (q0 16)) (q31 (q32 3 0 (q8 cm_118 (q58 (q5 9 0 (q2 0 2)) (q58 (q5 9 7 (q2 0 2)) (q58 (q3 0 (q0 2) (q2 2 0)) (q58 (q8 cm_118 (q58 (q5 9 0 (q2 0 2)) (q58 (q2 1 0) (q58 (q6 0 (q5 9 13 (q2 0 2)) (q2 2 0)) (q58 (q6 0 (q5 9 9 (q2 0 2)) (q2 2 0)) q30))))) q30)))))) (q36 (q8 cm_122 (q58 (q5 9 0 (q2 0 2)) (q58 (q3 0 (q0 34) (q2 2 0)) (q58 (q8 cm_118 (q58 (q5 9 0 (q2 0 2)) (q58 (q5 9 6 (q2 0 2)) (q58 (q2 3 0) (q58 (q3 0 (q0 34) (q2 2 0)) q30))))) q30)))))) (q33 2 1))) (q31 (q32 2 0 (q8 cm_115 (q58 (q5 9 0 (q2 0 2)) (q58 (q5 9 7 (q2 0 2)) (q58 (q6 0 (q5 9 5 (q2 0 2)) (q0 9)) q30))))) (q31 (q36 (q8 cm_123 (q58 (q5 9 0 (q2 0 2)) (q58 (q0 50) (q58 (q8 cm_121 (q58 (q5 9 0 (q2 0 2)) (q58 (q2 2 0) (q58 (q8 cm_168 (q58 (q0 50) q30)) (q58 (q5 9 3 (q2 0 2)) q30))))) q30))))) (q31 (q36 (q8 cm_122 (q58 (q5 9 0 (q2 0 2)) (q58 (q0 66) (q58 (q8 cm_116 (q58 (q5 9 0 (q2 0 2)) (q58 (q5 9 6 (q2 0 2)) (q58 (q8 cm_115 (q58 (q5 9 0 (q2 0 2)) (q58 (q5 9 7 (q2 0 2)) (q58 (q8 cm_116 (q58 (q5 9 0 (q2 0 2)) (q58 (q6 0 (q5 9 5 (q2 0 2)) (q0 9)) (q58 (q6 0 (q5 9 5 (q2 0 2)) (q0 15)) q30)))) q30)))) q30)))) q30))))) (q31 (q36 (q8 cm_122 (q58 (q5 9 0 (q2 0 2)) (q58 (q0 67) (q58 (q8 cm_115 (q58 (q5 9 0 (q2 0 2)) (q58 (q5 9 7 (q2 0 2)) (q58 (q2 1 0) q30)))) q30))))) q48))))))))
def cm_176 : tC := qm 4 [2] 10 9 cf_176
theorem sf_176 (d : Nat) (h : 5 ≤ d) : EF L xs d FF tr_176 cf_176 := (s_31 (s_31 (s_32 s_0) (s_41 (s_20 s_2 s_0) (s_36 (s_8 (sm_122 d (by omega)) (s_58 (s_5 s_2) (s_58 (s_3 s_0 s_2) (s_58 (s_8 (sm_118 d (by omega)) (s_58 (s_5 s_2) (s_58 (s_5 s_2) (s_58 (s_8 (sm_118 d (by omega)) (s_58 (s_5 s_2) (s_58 (s_5 s_2) (s_58 (s_3 s_0 s_2) (s_58 (s_6 (s_5 s_2) s_2) s_57))))) (s_58 (s_6 (s_5 s_2) s_2) s_57))))) s_57))))) s_33)) (s_31 (s_36 (s_8 (sm_123 d (by omega)) (s_58 (s_5 s_2) (s_58 s_0 (s_58 (s_8 (sm_121 d (by omega)) (s_58 (s_5 s_2) (s_58 (s_5 s_2) (s_58 (s_8 (sm_168 d (by omega)) (s_58 s_0 s_57)) (s_58 (s_8 (sm_168 d (by omega)) (s_58 s_0 s_57)) s_57))))) s_57))))) (s_31 (s_32 (s_8 (sm_116 d (by omega)) (s_58 (s_5 s_2) (s_58 (s_6 (s_5 s_2) s_0) (s_58 (s_6 (s_5 s_2) s_0) s_57))))) (s_31 (s_31 (s_32 s_0) (s_41 (s_20 s_2 s_0) (s_31 (s_32 (s_8 (sm_118 d (by omega)) (s_58 (s_5 s_2) (s_58 (s_5 s_2) (s_58 (s_3 s_0 s_2) (s_58 (s_8 (sm_118 d (by omega)) (s_58 (s_5 s_2) (s_58 s_2 (s_58 (s_6 (s_5 s_2) s_2) (s_58 (s_6 (s_5 s_2) s_2) s_57))))) s_57)))))) (s_36 (s_8 (sm_122 d (by omega)) (s_58 (s_5 s_2) (s_58 (s_3 s_0 s_2) (s_58 (s_8 (sm_118 d (by omega)) (s_58 (s_5 s_2) (s_58 (s_5 s_2) (s_58 s_2 (s_58 (s_3 s_0 s_2) s_57))))) s_57)))))) s_33)) (s_31 (s_32 (s_8 (sm_115 d (by omega)) (s_58 (s_5 s_2) (s_58 (s_5 s_2) (s_58 (s_6 (s_5 s_2) s_0) s_57))))) (s_31 (s_36 (s_8 (sm_123 d (by omega)) (s_58 (s_5 s_2) (s_58 s_0 (s_58 (s_8 (sm_121 d (by omega)) (s_58 (s_5 s_2) (s_58 s_2 (s_58 (s_8 (sm_168 d (by omega)) (s_58 s_0 s_57)) (s_58 (s_5 s_2) s_57))))) s_57))))) (s_31 (s_36 (s_8 (sm_122 d (by omega)) (s_58 (s_5 s_2) (s_58 s_0 (s_58 (s_8 (sm_116 d (by omega)) (s_58 (s_5 s_2) (s_58 (s_5 s_2) (s_58 (s_8 (sm_115 d (by omega)) (s_58 (s_5 s_2) (s_58 (s_5 s_2) (s_58 (s_8 (sm_116 d (by omega)) (s_58 (s_5 s_2) (s_58 (s_6 (s_5 s_2) s_0) (s_58 (s_6 (s_5 s_2) s_0) s_57)))) s_57)))) s_57)))) s_57))))) (s_31 (s_36 (s_8 (sm_122 d (by omega)) (s_58 (s_5 s_2) (s_58 s_0 (s_58 (s_8 (sm_115 d (by omega)) (s_58 (s_5 s_2) (s_58 (s_5 s_2) (s_58 s_2 s_57)))) s_57))))) s_48))))))))
theorem sm_176 (d : Nat) (h : 6 ≤ d) : CM L xs d FF 176 cm_176 := by
  obtain ⟨e, rfl⟩ : ∃ e, d = e + 1 := ⟨d - 1, by omega⟩
  exact s_m rfl (sf_176 e (by omega)) rfl
/-- GatedPile$Wiring.makeRegisters -/
def cf_177 : tF := (q31 (q32 1 0 (q8 cm_116 (q58 (q5 9 0 (q2 0 2)) (q58 (q5 9 8 (q2 0 2)) (q58 (q8 cm_115 (q58 (q5 9 0 (q2 0 2)) (q58 (q5 9 7 (q2 0 2)) (q58 (q8 cm_116 (q58 (q5 9 0 (q2 0 2)) (q58 (q8 cm_116 (q58 (q5 9 0 (q2 0 2)) (q58 (q6 0 (q5 9 4 (q2 0 2)) (q0 3)) (q58 (q6 0 (q5 9 5 (q2 0 2)) (q0 10)) q30)))) (q58 (q6 0 (q5 9 5 (q2 0 2)) (q0 13)) q30)))) q30)))) q30))))) (q31 (q32 2 2 (q12 0 (q0 3))) (q31 (q31 (q32 3 0 (q0 0)) (q41 FF (q20 2 (q2 3 0) (q0 3)) (q35 0 (q2 2 2) (q2 3 0) (q8 cm_114 (q58 (q5 9 0 (q2 0 2)) (q58 (q3 0 (q0 27) (q2 3 0)) q30)))) (q33 3 1))) (q31 (q31 (q32 3 0 (q0 0)) (q41 FF (q20 2 (q2 3 0) (q0 8)) (q31 (q32 4 0 (q9 (q21 1 (q3 5 (q2 3 0) (q0 1))) (q0 27) (q6 0 (q2 2 2) (q0 0)))) (q31 (q32 5 0 (q9 (q21 1 (q3 5 (q2 3 0) (q0 2))) (q0 28) (q6 0 (q2 2 2) (q0 1)))) (q31 (q32 6 0 (q9 (q21 1 (q3 5 (q2 3 0) (q0 4))) (q0 29) (q6 0 (q2 2 2) (q0 2)))) (q31 (q32 7 0 (q8 cm_115 (q58 (q5 9 0 (q2 0 2)) (q58 (q2 1 0) (q58 (q8 cm_115 (q58 (q5 9 0 (q2 0 2)) (q58 (q8 cm_115 (q58 (q5 9 0 (q2 0 2)) (q58 (q2 4 0) (q58 (q2 5 0) q30)))) (q58 (q2 6 0) q30)))) q30))))) (q31 (q32 8 0 (q3 0 (q0 68) (q3 2 (q0 16) (q2 3 0)))) (q36 (q8 cm_123 (q58 (q5 9 0 (q2 0 2)) (q58 (q2 8 0) (q58 (q8 cm_121 (q58 (q5 9 0 (q2 0 2)) (q58 (q2 7 0) (q58 (q8 cm_168 (q58 (q2 8 0) q30)) (q58 (q5 9 11 (q2 0 2)) q30))))) q30)))))))))) (q33 3 1))) q48))))
def cm_177 : tC := qm 9 [2] 10 9 cf_177
theorem sf_177 (d : Nat) (h : 5 ≤ d) : EF L xs d FF tr_177 cf_177 := (s_31 (s_32 (s_8 (sm_116 d (by omega)) (s_58 (s_5 s_2) (s_58 (s_5 s_2) (s_58 (s_8 (sm_115 d (by omega)) (s_58 (s_5 s_2) (s_58 (s_5 s_2) (s_58 (s_8 (sm_116 d (by omega)) (s_58 (s_5 s_2) (s_58 (s_8 (sm_116 d (by omega)) (s_58 (s_5 s_2) (s_58 (s_6 (s_5 s_2) s_0) (s_58 (s_6 (s_5 s_2) s_0) s_57)))) (s_58 (s_6 (s_5 s_2) s_0) s_57)))) s_57)))) s_57))))) (s_31 (s_32 (s_12 s_0)) (s_31 (s_31 (s_32 s_0) (s_41 (s_20 s_2 s_0) (s_35 s_2 s_2 (s_8 (sm_114 d (by omega)) (s_58 (s_5 s_2) (s_58 (s_3 s_0 s_2) s_57)))) s_33)) (s_31 (s_31 (s_32 s_0) (s_41 (s_20 s_2 s_0) (s_31 (s_32 (s_9 (s_21 (s_3 s_2 s_0)) s_0 (s_6 s_2 s_0))) (s_31 (s_32 (s_9 (s_21 (s_3 s_2 s_0)) s_0 (s_6 s_2 s_0))) (s_31 (s_32 (s_9 (s_21 (s_3 s_2 s_0)) s_0 (s_6 s_2 s_0))) (s_31 (s_32 (s_8 (sm_115 d (by omega)) (s_58 (s_5 s_2) (s_58 s_2 (s_58 (s_8 (sm_115 d (by omega)) (s_58 (s_5 s_2) (s_58 (s_8 (sm_115 d (by omega)) (s_58 (s_5 s_2) (s_58 s_2 (s_58 s_2 s_57)))) (s_58 s_2 s_57)))) s_57))))) (s_31 (s_32 (s_3 s_0 (s_3 s_0 s_2))) (s_36 (s_8 (sm_123 d (by omega)) (s_58 (s_5 s_2) (s_58 s_2 (s_58 (s_8 (sm_121 d (by omega)) (s_58 (s_5 s_2) (s_58 s_2 (s_58 (s_8 (sm_168 d (by omega)) (s_58 s_2 s_57)) (s_58 (s_5 s_2) s_57))))) s_57)))))))))) s_33)) s_48))))
theorem sm_177 (d : Nat) (h : 6 ≤ d) : CM L xs d FF 177 cm_177 := by
  obtain ⟨e, rfl⟩ : ∃ e, d = e + 1 := ⟨d - 1, by omega⟩
  exact s_m rfl (sf_177 e (by omega)) rfl
/-- GatedPileModel.result -/
def cf_305 : tF := (q31 (q32 8 2 (q12 0 (q0 16))) (q31 (q35 0 (q2 8 2) (q0 0) (q2 6 0)) (q31 (q32 9 2 (q12 0 (q0 16))) (q31 (q32 10 2 (q12 0 (q0 16))) (q31 (q31 (q32 11 0 (q0 0)) (q41 FF (q20 2 (q2 11 0) (q0 16)) (q31 (q35 0 (q2 9 2) (q2 11 0) (q9 (q20 2 (q2 11 0) (q0 15)) (q6 0 (q2 1 2) (q3 0 (q2 11 0) (q0 1))) (q0 0))) (q35 0 (q2 10 2) (q2 11 0) (q9 (q20 2 (q2 11 0) (q0 8)) (q6 0 (q2 2 2) (q2 11 0)) (q3 1 (q3 0 (q0 18) (q2 11 0)) (q0 8))))) (q33 11 1))) (q31 (q32 11 2 (q8 cm_301 (q58 (q2 0 2) (q58 (q6 0 (q5 11 92 (q2 0 2)) (q0 2)) (q58 (q2 3 2) (q58 (q2 4 2) q30)))))) (q31 (q32 11 2 (q8 cm_301 (q58 (q2 0 2) (q58 (q6 0 (q5 11 92 (q2 0 2)) (q0 3)) (q58 (q2 11 2) (q58 (q2 5 2) q30)))))) (q31 (q32 11 2 (q8 cm_301 (q58 (q2 0 2) (q58 (q6 0 (q5 11 92 (q2 0 2)) (q0 4)) (q58 (q2 11 2) (q58 (q2 8 2) q30)))))) (q31 (q32 11 2 (q8 cm_301 (q58 (q2 0 2) (q58 (q6 0 (q5 11 92 (q2 0 2)) (q0 5)) (q58 (q2 11 2) (q58 (q2 9 2) q30)))))) (q31 (q32 11 2 (q8 cm_301 (q58 (q2 0 2) (q58 (q6 0 (q5 11 92 (q2 0 2)) (q0 6)) (q58 (q2 11 2) (q58 (q8 cm_302 (q58 (q0 8) q30)) q30)))))) (q31 (q32 11 2 (q8 cm_301 (q58 (q2 0 2) (q58 (q6 0 (q5 11 92 (q2 0 2)) (q0 7)) (q58 (q2 11 2) (q58 (q2 10 2) q30)))))) (q31 (q32 11 2 (q8 cm_301 (q58 (q2 0 2) (q58 (q6 0 (q5 11 92 (q2 0 2)) (q0 13)) (q58 (q2 11 2) (q58 (q8 cm_298 (q58 (q0 2) q30)) q30)))))) (q47 (q8 cm_301 (q58 (q2 0 2) (q58 (q2 7 0) (q58 (q2 11 2) (q58 (q8 cm_298 (q58 (q0 196) q30)) q30))))))))))))))))))
def cm_305 : tC := qm 12 [2, 2, 2, 2, 2, 2, 0, 0] 12 2 cf_305
theorem sf_305 (d : Nat) (h : 5 ≤ d) : EF L xs d FF tr_305 cf_305 := (s_31 (s_32 (s_12 s_0)) (s_31 (s_35 s_2 s_0 s_2) (s_31 (s_32 (s_12 s_0)) (s_31 (s_32 (s_12 s_0)) (s_31 (s_31 (s_32 s_0) (s_41 (s_20 s_2 s_0) (s_31 (s_35 s_2 s_2 (s_9 (s_20 s_2 s_0) (s_6 s_2 (s_3 s_2 s_0)) s_0)) (s_35 s_2 s_2 (s_9 (s_20 s_2 s_0) (s_6 s_2 s_2) (s_3 (s_3 s_0 s_2) s_0)))) s_33)) (s_31 (s_32 (s_8 (sm_301 d (by omega)) (s_58 s_2 (s_58 (s_6 (s_5 s_2) s_0) (s_58 s_2 (s_58 s_2 s_57)))))) (s_31 (s_32 (s_8 (sm_301 d (by omega)) (s_58 s_2 (s_58 (s_6 (s_5 s_2) s_0) (s_58 s_2 (s_58 s_2 s_57)))))) (s_31 (s_32 (s_8 (sm_301 d (by omega)) (s_58 s_2 (s_58 (s_6 (s_5 s_2) s_0) (s_58 s_2 (s_58 s_2 s_57)))))) (s_31 (s_32 (s_8 (sm_301 d (by omega)) (s_58 s_2 (s_58 (s_6 (s_5 s_2) s_0) (s_58 s_2 (s_58 s_2 s_57)))))) (s_31 (s_32 (s_8 (sm_301 d (by omega)) (s_58 s_2 (s_58 (s_6 (s_5 s_2) s_0) (s_58 s_2 (s_58 (s_8 (sm_302 d (by omega)) (s_58 s_0 s_57)) s_57)))))) (s_31 (s_32 (s_8 (sm_301 d (by omega)) (s_58 s_2 (s_58 (s_6 (s_5 s_2) s_0) (s_58 s_2 (s_58 s_2 s_57)))))) (s_31 (s_32 (s_8 (sm_301 d (by omega)) (s_58 s_2 (s_58 (s_6 (s_5 s_2) s_0) (s_58 s_2 (s_58 (s_8 (sm_298 d (by omega)) (s_58 s_0 s_57)) s_57)))))) (s_47 (s_8 (sm_301 d (by omega)) (s_58 s_2 (s_58 s_2 (s_58 s_2 (s_58 (s_8 (sm_298 d (by omega)) (s_58 s_0 s_57)) s_57))))))))))))))))))
theorem sm_305 (d : Nat) (h : 6 ≤ d) : CM L xs d FF 305 cm_305 := by
  obtain ⟨e, rfl⟩ : ∃ e, d = e + 1 := ⟨d - 1, by omega⟩
  exact s_m rfl (sf_305 e (by omega)) rfl
/-- GatedPileModel.makeNext -/
def cf_306 : tF := (q31 (q32 9 2 (q8 cm_297 (q58 (q2 0 2) (q58 (q8 cm_298 (q58 (q0 2) q30)) (q58 (q12 0 (q0 16)) (q58 (q0 1) q30)))))) (q31 (q32 10 0 (q6 0 (q2 2 2) (q0 0))) (q31 (q31 (q32 11 0 (q0 1)) (q41 FF (q20 2 (q2 11 0) (q0 16)) (q32 10 0 (q8 cm_294 (q58 (q2 0 2) (q58 (q2 10 0) (q58 (q6 0 (q2 2 2) (q2 11 0)) q30))))) (q33 11 1))) (q31 (q32 11 0 (q8 cm_292 (q58 (q2 0 2) (q58 (q2 10 0) q30)))) (q31 (q32 12 0 (q8 cm_293 (q58 (q2 0 2) (q58 (q6 0 (q5 11 92 (q2 0 2)) (q0 11)) (q58 (q2 11 0) q30))))) (q31 (q32 13 0 (q8 cm_293 (q58 (q2 0 2) (q58 (q6 0 (q5 11 92 (q2 0 2)) (q0 12)) (q58 (q6 0 (q2 2 2) (q0 15)) q30))))) (q31 (q32 14 0 (q8 cm_294 (q58 (q2 0 2) (q58 (q2 12 0) (q58 (q2 13 0) q30))))) (q31 (q32 15 0 (q8 cm_294 (q58 (q2 0 2) (q58 (q2 14 0) (q58 (q6 0 (q5 11 92 (q2 0 2)) (q0 14)) q30))))) (q31 (q32 16 2 (q12 0 (q0 16))) (q31 (q31 (q32 17 0 (q0 0)) (q41 FF (q20 2 (q2 17 0) (q0 16)) (q31 (q32 18 0 (q8 cm_296 (q58 (q2 0 2) (q58 (q6 0 (q5 11 92 (q2 0 2)) (q0 14)) (q58 (q6 0 (q8 cm_302 (q58 (q0 8) q30)) (q2 17 0)) (q58 (q6 0 (q8 cm_302 (q58 (q0 11) q30)) (q2 17 0)) q30)))))) (q35 0 (q2 16 2) (q2 17 0) (q8 cm_293 (q58 (q2 0 2) (q58 (q2 15 0) (q58 (q2 18 0) q30)))))) (q33 17 1))) (q31 (q32 17 2 (q8 cm_297 (q58 (q2 0 2) (q58 (q8 cm_298 (q58 (q0 2) q30)) (q58 (q2 16 2) (q58 (q0 0) q30)))))) (q31 (q32 17 2 (q8 cm_301 (q58 (q2 0 2) (q58 (q6 0 (q5 11 92 (q2 0 2)) (q0 13)) (q58 (q2 17 2) (q58 (q2 1 2) q30)))))) (q31 (q31 (q32 18 0 (q0 0)) (q41 FF (q20 2 (q2 18 0) (q0 16)) (q31 (q32 19 0 (q8 cm_296 (q58 (q2 0 2) (q58 (q2 5 0) (q58 (q3 0 (q0 2) (q2 18 0)) (q58 (q6 0 (q2 9 2) (q2 18 0)) q30)))))) (q35 0 (q5 11 90 (q2 0 2)) (q3 0 (q0 2) (q2 18 0)) (q8 cm_296 (q58 (q2 0 2) (q58 (q2 6 0) (q58 (q2 19 0) (q58 (q6 0 (q2 17 2) (q2 18 0)) q30))))))) (q33 18 1))) (q31 (q31 (q32 18 0 (q0 0)) (q41 FF (q20 2 (q2 18 0) (q0 16)) (q35 0 (q5 11 90 (q2 0 2)) (q3 0 (q0 18) (q2 18 0)) (q8 cm_296 (q58 (q2 0 2) (q58 (q2 5 0) (q58 (q3 0 (q0 18) (q2 18 0)) (q58 (q3 0 (q0 196) (q2 18 0)) q30)))))) (q33 18 1))) (q31 (q32 18 0 (q8 cm_294 (q58 (q2 0 2) (q58 (q6 0 (q5 11 92 (q2 0 2)) (q0 8)) (q58 (q6 0 (q5 11 92 (q2 0 2)) (q0 9)) q30))))) (q31 (q31 (q32 19 0 (q0 0)) (q41 FF (q20 2 (q2 19 0) (q0 16)) (q31 (q32 20 0 (q8 cm_296 (q58 (q2 0 2) (q58 (q2 18 0) (q58 (q6 0 (q2 17 2) (q2 19 0)) (q58 (q6 0 (q2 4 2) (q2 19 0)) q30)))))) (q31 (q32 21 0 (q8 cm_296 (q58 (q2 0 2) (q58 (q2 6 0) (q58 (q3 0 (q0 2) (q2 19 0)) (q58 (q2 20 0) q30)))))) (q35 0 (q5 11 90 (q2 0 2)) (q3 0 (q0 34) (q2 19 0)) (q8 cm_296 (q58 (q2 0 2) (q58 (q2 5 0) (q58 (q2 21 0) (q58 (q3 0 (q0 34) (q2 19 0)) q30)))))))) (q33 19 1))) (q31 (q32 19 0 (q8 cm_293 (q58 (q2 0 2) (q58 (q2 6 0) (q58 (q6 0 (q5 11 92 (q2 0 2)) (q0 9)) q30))))) (q31 (q31 (q32 20 0 (q0 0)) (q41 FF (q20 2 (q2 20 0) (q0 16)) (q35 0 (q5 11 90 (q2 0 2)) (q3 0 (q0 50) (q2 20 0)) (q8 cm_296 (q58 (q2 0 2) (q58 (q2 19 0) (q58 (q3 0 (q0 50) (q2 20 0)) (q58 (q6 0 (q2 2 2) (q2 20 0)) q30)))))) (q33 20 1))) (q31 (q32 20 0 (q8 cm_294 (q58 (q2 0 2) (q58 (q6 0 (q5 11 92 (q2 0 2)) (q0 9)) (q58 (q6 0 (q5 11 92 (q2 0 2)) (q0 15)) q30))))) (q31 (q32 21 0 (q8 cm_293 (q58 (q2 0 2) (q58 (q2 6 0) (q58 (q2 20 0) q30))))) (q31 (q35 0 (q5 11 90 (q2 0 2)) (q0 66) (q8 cm_294 (q58 (q2 0 2) (q58 (q2 5 0) (q58 (q2 21 0) q30))))) (q31 (q35 0 (q5 11 90 (q2 0 2)) (q0 67) (q8 cm_293 (q58 (q2 0 2) (q58 (q2 6 0) (q58 (q2 18 0) q30))))) (q31 (q32 22 0 (q8 cm_294 (q58 (q2 0 2) (q58 (q2 8 0) (q58 (q6 0 (q5 11 92 (q2 0 2)) (q0 10)) q30))))) (q31 (q32 23 0 (q8 cm_294 (q58 (q2 0 2) (q58 (q2 22 0) (q58 (q6 0 (q5 11 92 (q2 0 2)) (q0 13)) q30))))) (q31 (q32 24 0 (q8 cm_293 (q58 (q2 0 2) (q58 (q2 6 0) (q58 (q2 23 0) q30))))) (q31 (q32 25 0 (q8 cm_294 (q58 (q2 0 2) (q58 (q2 7 0) (q58 (q2 24 0) q30))))) (q31 (q32 26 2 (q12 0 (q0 3))) (q31 (q31 (q32 27 0 (q0 0)) (q41 FF (q20 2 (q2 27 0) (q0 3)) (q35 0 (q2 26 2) (q2 27 0) (q8 cm_292 (q58 (q2 0 2) (q58 (q3 0 (q0 27) (q2 27 0)) q30)))) (q33 27 1))) (q31 (q31 (q32 27 0 (q0 0)) (q41 FF (q20 2 (q2 27 0) (q0 8)) (q31 (q32 28 2 (q12 0 (q0 3))) (q31 (q31 (q32 29 0 (q0 0)) (q41 FF (q20 2 (q2 29 0) (q0 3)) (q35 0 (q2 28 2) (q2 29 0) (q9 (q20 0 (q3 5 (q3 9 (q2 27 0) (q2 29 0)) (q0 1)) (q0 1)) (q3 0 (q0 27) (q2 29 0)) (q6 0 (q2 26 2) (q2 29 0)))) (q33 29 1))) (q31 (q32 29 0 (q8 cm_293 (q58 (q2 0 2) (q58 (q6 0 (q2 28 2) (q0 0)) (q58 (q6 0 (q2 28 2) (q0 1)) q30))))) (q31 (q32 30 0 (q8 cm_293 (q58 (q2 0 2) (q58 (q2 29 0) (q58 (q6 0 (q2 28 2) (q0 2)) q30))))) (q31 (q32 31 0 (q8 cm_293 (q58 (q2 0 2) (q58 (q2 25 0) (q58 (q2 30 0) q30))))) (q31 (q32 32 0 (q0 0)) (q41 FF (q20 2 (q2 32 0) (q0 16)) (q35 0 (q5 11 90 (q2 0 2)) (q8 cm_299 (q58 (q2 27 0) (q58 (q2 32 0) q30))) (q8 cm_296 (q58 (q2 0 2) (q58 (q2 31 0) (q58 (q8 cm_299 (q58 (q2 27 0) (q58 (q2 32 0) q30))) (q58 (q6 0 (q2 3 2) (q2 32 0)) q30)))))) (q33 32 1)))))))) (q33 27 1))) q48)))))))))))))))))))))))))))))
def cm_306 : tC := qm 33 [2, 2, 2, 2, 2, 0, 0, 0, 0] 12 9 cf_306
theorem sf_306 (d : Nat) (h : 5 ≤ d) : EF L xs d FF tr_306 cf_306 := (s_31 (s_32 (s_8 (sm_297 d (by omega)) (s_58 s_2 (s_58 (s_8 (sm_298 d (by omega)) (s_58 s_0 s_57)) (s_58 (s_12 s_0) (s_58 s_0 s_57)))))) (s_31 (s_32 (s_6 s_2 s_0)) (s_31 (s_31 (s_32 s_0) (s_41 (s_20 s_2 s_0) (s_32 (s_8 (sm_294 d (by omega)) (s_58 s_2 (s_58 s_2 (s_58 (s_6 s_2 s_2) s_57))))) s_33)) (s_31 (s_32 (s_8 (sm_292 d (by omega)) (s_58 s_2 (s_58 s_2 s_57)))) (s_31 (s_32 (s_8 (sm_293 d (by omega)) (s_58 s_2 (s_58 (s_6 (s_5 s_2) s_0) (s_58 s_2 s_57))))) (s_31 (s_32 (s_8 (sm_293 d (by omega)) (s_58 s_2 (s_58 (s_6 (s_5 s_2) s_0) (s_58 (s_6 s_2 s_0) s_57))))) (s_31 (s_32 (s_8 (sm_294 d (by omega)) (s_58 s_2 (s_58 s_2 (s_58 s_2 s_57))))) (s_31 (s_32 (s_8 (sm_294 d (by omega)) (s_58 s_2 (s_58 s_2 (s_58 (s_6 (s_5 s_2) s_0) s_57))))) (s_31 (s_32 (s_12 s_0)) (s_31 (s_31 (s_32 s_0) (s_41 (s_20 s_2 s_0) (s_31 (s_32 (s_8 (sm_296 d (by omega)) (s_58 s_2 (s_58 (s_6 (s_5 s_2) s_0) (s_58 (s_6 (s_8 (sm_302 d (by omega)) (s_58 s_0 s_57)) s_2) (s_58 (s_6 (s_8 (sm_302 d (by omega)) (s_58 s_0 s_57)) s_2) s_57)))))) (s_35 s_2 s_2 (s_8 (sm_293 d (by omega)) (s_58 s_2 (s_58 s_2 (s_58 s_2 s_57)))))) s_33)) (s_31 (s_32 (s_8 (sm_297 d (by omega)) (s_58 s_2 (s_58 (s_8 (sm_298 d (by omega)) (s_58 s_0 s_57)) (s_58 s_2 (s_58 s_0 s_57)))))) (s_31 (s_32 (s_8 (sm_301 d (by omega)) (s_58 s_2 (s_58 (s_6 (s_5 s_2) s_0) (s_58 s_2 (s_58 s_2 s_57)))))) (s_31 (s_31 (s_32 s_0) (s_41 (s_20 s_2 s_0) (s_31 (s_32 (s_8 (sm_296 d (by omega)) (s_58 s_2 (s_58 s_2 (s_58 (s_3 s_0 s_2) (s_58 (s_6 s_2 s_2) s_57)))))) (s_35 (s_5 s_2) (s_3 s_0 s_2) (s_8 (sm_296 d (by omega)) (s_58 s_2 (s_58 s_2 (s_58 s_2 (s_58 (s_6 s_2 s_2) s_57))))))) s_33)) (s_31 (s_31 (s_32 s_0) (s_41 (s_20 s_2 s_0) (s_35 (s_5 s_2) (s_3 s_0 s_2) (s_8 (sm_296 d (by omega)) (s_58 s_2 (s_58 s_2 (s_58 (s_3 s_0 s_2) (s_58 (s_3 s_0 s_2) s_57)))))) s_33)) (s_31 (s_32 (s_8 (sm_294 d (by omega)) (s_58 s_2 (s_58 (s_6 (s_5 s_2) s_0) (s_58 (s_6 (s_5 s_2) s_0) s_57))))) (s_31 (s_31 (s_32 s_0) (s_41 (s_20 s_2 s_0) (s_31 (s_32 (s_8 (sm_296 d (by omega)) (s_58 s_2 (s_58 s_2 (s_58 (s_6 s_2 s_2) (s_58 (s_6 s_2 s_2) s_57)))))) (s_31 (s_32 (s_8 (sm_296 d (by omega)) (s_58 s_2 (s_58 s_2 (s_58 (s_3 s_0 s_2) (s_58 s_2 s_57)))))) (s_35 (s_5 s_2) (s_3 s_0 s_2) (s_8 (sm_296 d (by omega)) (s_58 s_2 (s_58 s_2 (s_58 s_2 (s_58 (s_3 s_0 s_2) s_57)))))))) s_33)) (s_31 (s_32 (s_8 (sm_293 d (by omega)) (s_58 s_2 (s_58 s_2 (s_58 (s_6 (s_5 s_2) s_0) s_57))))) (s_31 (s_31 (s_32 s_0) (s_41 (s_20 s_2 s_0) (s_35 (s_5 s_2) (s_3 s_0 s_2) (s_8 (sm_296 d (by omega)) (s_58 s_2 (s_58 s_2 (s_58 (s_3 s_0 s_2) (s_58 (s_6 s_2 s_2) s_57)))))) s_33)) (s_31 (s_32 (s_8 (sm_294 d (by omega)) (s_58 s_2 (s_58 (s_6 (s_5 s_2) s_0) (s_58 (s_6 (s_5 s_2) s_0) s_57))))) (s_31 (s_32 (s_8 (sm_293 d (by omega)) (s_58 s_2 (s_58 s_2 (s_58 s_2 s_57))))) (s_31 (s_35 (s_5 s_2) s_0 (s_8 (sm_294 d (by omega)) (s_58 s_2 (s_58 s_2 (s_58 s_2 s_57))))) (s_31 (s_35 (s_5 s_2) s_0 (s_8 (sm_293 d (by omega)) (s_58 s_2 (s_58 s_2 (s_58 s_2 s_57))))) (s_31 (s_32 (s_8 (sm_294 d (by omega)) (s_58 s_2 (s_58 s_2 (s_58 (s_6 (s_5 s_2) s_0) s_57))))) (s_31 (s_32 (s_8 (sm_294 d (by omega)) (s_58 s_2 (s_58 s_2 (s_58 (s_6 (s_5 s_2) s_0) s_57))))) (s_31 (s_32 (s_8 (sm_293 d (by omega)) (s_58 s_2 (s_58 s_2 (s_58 s_2 s_57))))) (s_31 (s_32 (s_8 (sm_294 d (by omega)) (s_58 s_2 (s_58 s_2 (s_58 s_2 s_57))))) (s_31 (s_32 (s_12 s_0)) (s_31 (s_31 (s_32 s_0) (s_41 (s_20 s_2 s_0) (s_35 s_2 s_2 (s_8 (sm_292 d (by omega)) (s_58 s_2 (s_58 (s_3 s_0 s_2) s_57)))) s_33)) (s_31 (s_31 (s_32 s_0) (s_41 (s_20 s_2 s_0) (s_31 (s_32 (s_12 s_0)) (s_31 (s_31 (s_32 s_0) (s_41 (s_20 s_2 s_0) (s_35 s_2 s_2 (s_9 (s_20 (s_3 (s_3 s_2 s_2) s_0) s_0) (s_3 s_0 s_2) (s_6 s_2 s_2))) s_33)) (s_31 (s_32 (s_8 (sm_293 d (by omega)) (s_58 s_2 (s_58 (s_6 s_2 s_0) (s_58 (s_6 s_2 s_0) s_57))))) (s_31 (s_32 (s_8 (sm_293 d (by omega)) (s_58 s_2 (s_58 s_2 (s_58 (s_6 s_2 s_0) s_57))))) (s_31 (s_32 (s_8 (sm_293 d (by omega)) (s_58 s_2 (s_58 s_2 (s_58 s_2 s_57))))) (s_31 (s_32 s_0) (s_41 (s_20 s_2 s_0) (s_35 (s_5 s_2) (s_8 (sm_299 d (by omega)) (s_58 s_2 (s_58 s_2 s_57))) (s_8 (sm_296 d (by omega)) (s_58 s_2 (s_58 s_2 (s_58 (s_8 (sm_299 d (by omega)) (s_58 s_2 (s_58 s_2 s_57))) (s_58 (s_6 s_2 s_2) s_57)))))) s_33))))))) s_33)) s_48)))))))))))))))))))))))))))))
theorem sm_306 (d : Nat) (h : 6 ≤ d) : CM L xs d FF 306 cm_306 := by
  obtain ⟨e, rfl⟩ : ∃ e, d = e + 1 := ⟨d - 1, by omega⟩
  exact s_m rfl (sf_306 e (by omega)) rfl
/-- GatedPile$Wiring.build -/
def cf_165 : tF := (q31 (q34 9 1 (q2 0 2) (q8 cm_167 (q58 (q2 0 2) (q58 (q0 24) q30)))) (q31 (q34 9 2 (q2 0 2) (q8 cm_167 (q58 (q2 0 2) (q58 (q0 21) q30)))) (q31 (q34 9 3 (q2 0 2) (q8 cm_167 (q58 (q2 0 2) (q58 (q0 27) q30)))) (q31 (q36 (q8 cm_170 (q58 (q2 0 2) q30))) (q31 (q36 (q8 cm_172 (q58 (q2 0 2) q30))) (q31 (q36 (q8 cm_173 (q58 (q2 0 2) q30))) (q31 (q36 (q8 cm_174 (q58 (q2 0 2) q30))) (q31 (q36 (q8 cm_175 (q58 (q2 0 2) q30))) (q31 (q36 (q8 cm_176 (q58 (q2 0 2) q30))) (q31 (q36 (q8 cm_177 (q58 (q2 0 2) q30))) q48))))))))))
def cm_165 : tC := qm 1 [2] 10 9 cf_165
theorem sf_165 (d : Nat) (h : 6 ≤ d) : EF L xs d FF tr_165 cf_165 := (s_31 (s_34 s_2 (s_8 (sm_167 d (by omega)) (s_58 s_2 (s_58 s_0 s_57)))) (s_31 (s_34 s_2 (s_8 (sm_167 d (by omega)) (s_58 s_2 (s_58 s_0 s_57)))) (s_31 (s_34 s_2 (s_8 (sm_167 d (by omega)) (s_58 s_2 (s_58 s_0 s_57)))) (s_31 (s_36 (s_8 (sm_170 d (by omega)) (s_58 s_2 s_57))) (s_31 (s_36 (s_8 (sm_172 d (by omega)) (s_58 s_2 s_57))) (s_31 (s_36 (s_8 (sm_173 d (by omega)) (s_58 s_2 s_57))) (s_31 (s_36 (s_8 (sm_174 d (by omega)) (s_58 s_2 s_57))) (s_31 (s_36 (s_8 (sm_175 d (by omega)) (s_58 s_2 s_57))) (s_31 (s_36 (s_8 (sm_176 d (by omega)) (s_58 s_2 s_57))) (s_31 (s_36 (s_8 (sm_177 d (by omega)) (s_58 s_2 s_57))) s_48))))))))))
theorem sm_165 (d : Nat) (h : 7 ≤ d) : CM L xs d FF 165 cm_165 := by
  obtain ⟨e, rfl⟩ : ∃ e, d = e + 1 := ⟨d - 1, by omega⟩
  exact s_m rfl (sf_165 e (by omega)) rfl
/-- GatedPileModel.makeNet -/
def cf_304 : tF := (q31 (q32 1 2 (q8 cm_300 (q58 (q2 0 2) (q58 (q0 24) (q58 (q0 25) (q58 (q0 26) q30)))))) (q31 (q32 2 2 (q8 cm_300 (q58 (q2 0 2) (q58 (q0 21) (q58 (q0 22) (q58 (q0 23) q30)))))) (q31 (q32 3 2 (q8 cm_300 (q58 (q2 0 2) (q58 (q0 27) (q58 (q0 28) (q58 (q0 29) q30)))))) (q31 (q32 4 2 (q12 0 (q0 4))) (q31 (q31 (q32 5 0 (q0 0)) (q41 FF (q20 2 (q2 5 0) (q0 4)) (q35 0 (q2 4 2) (q2 5 0) (q8 cm_292 (q58 (q2 0 2) (q58 (q3 0 (q0 30) (q2 5 0)) q30)))) (q33 5 1))) (q31 (q36 (q8 cm_303 (q58 (q2 0 2) (q58 (q2 4 2) q30)))) (q31 (q32 5 0 (q8 cm_292 (q58 (q2 0 2) (q58 (q0 66) q30)))) (q31 (q32 6 0 (q8 cm_292 (q58 (q2 0 2) (q58 (q0 67) q30)))) (q31 (q32 7 0 (q8 cm_293 (q58 (q2 0 2) (q58 (q2 5 0) (q58 (q2 6 0) q30))))) (q31 (q32 8 0 (q8 cm_293 (q58 (q2 0 2) (q58 (q0 66) (q58 (q2 6 0) q30))))) (q31 (q32 9 0 (q8 cm_293 (q58 (q2 0 2) (q58 (q2 5 0) (q58 (q0 67) q30))))) (q31 (q32 10 0 (q8 cm_293 (q58 (q2 0 2) (q58 (q0 66) (q58 (q0 67) q30))))) (q31 (q32 11 0 (q8 cm_294 (q58 (q2 0 2) (q58 (q6 0 (q5 11 92 (q2 0 2)) (q0 8)) (q58 (q6 0 (q5 11 92 (q2 0 2)) (q0 9)) q30))))) (q31 (q32 12 0 (q8 cm_294 (q58 (q2 0 2) (q58 (q2 11 0) (q58 (q6 0 (q5 11 92 (q2 0 2)) (q0 10)) q30))))) (q31 (q32 13 2 (q8 cm_301 (q58 (q2 0 2) (q58 (q2 12 0) (q58 (q2 2 2) (q58 (q8 cm_302 (q58 (q0 5) q30)) q30)))))) (q31 (q32 14 0 (q8 cm_294 (q58 (q2 0 2) (q58 (q6 0 (q5 11 92 (q2 0 2)) (q0 1)) (q58 (q6 0 (q5 11 92 (q2 0 2)) (q0 4)) q30))))) (q31 (q32 15 2 (q12 0 (q0 16))) (q31 (q31 (q32 16 0 (q0 0)) (q41 FF (q20 2 (q2 16 0) (q0 16)) (q35 0 (q2 15 2) (q2 16 0) (q8 cm_295 (q58 (q2 0 2) (q58 (q2 14 0) (q58 (q6 0 (q2 13 2) (q2 16 0)) q30))))) (q33 16 1))) (q31 (q32 16 2 (q8 cm_297 (q58 (q2 0 2) (q58 (q2 1 2) (q58 (q2 15 2) (q58 (q2 14 0) q30)))))) (q31 (q32 17 0 (q8 cm_295 (q58 (q2 0 2) (q58 (q6 0 (q2 1 2) (q0 15)) (q58 (q6 0 (q2 13 2) (q0 15)) q30))))) (q31 (q32 18 0 (q8 cm_296 (q58 (q2 0 2) (q58 (q2 17 0) (q58 (q6 0 (q2 16 2) (q0 15)) (q58 (q6 0 (q2 1 2) (q0 15)) q30)))))) (q31 (q32 19 2 (q12 0 (q0 16))) (q31 (q32 20 2 (q12 0 (q0 16))) (q31 (q31 (q32 21 0 (q0 0)) (q41 FF (q20 2 (q2 21 0) (q0 16)) (q35 0 (q2 19 2) (q2 21 0) (q8 cm_293 (q58 (q2 0 2) (q58 (q6 0 (q2 1 2) (q2 21 0)) (q58 (q6 0 (q2 2 2) (q2 21 0)) q30))))) (q33 21 1))) (q31 (q31 (q32 21 0 (q0 0)) (q41 FF (q20 2 (q2 21 0) (q0 16)) (q35 0 (q2 20 2) (q2 21 0) (q8 cm_295 (q58 (q2 0 2) (q58 (q6 0 (q2 1 2) (q2 21 0)) (q58 (q6 0 (q2 2 2) (q2 21 0)) q30))))) (q33 21 1))) (q31 (q32 21 2 (q8 cm_305 (q58 (q2 0 2) (q58 (q2 1 2) (q58 (q2 3 2) (q58 (q2 16 2) (q58 (q2 19 2) (q58 (q2 20 2) (q58 (q2 18 0) (q58 (q2 9 0) q30)))))))))) (q31 (q36 (q8 cm_306 (q58 (q2 0 2) (q58 (q2 1 2) (q58 (q2 3 2) (q58 (q2 21 2) (q58 (q2 16 2) (q58 (q2 7 0) (q58 (q2 8 0) (q58 (q2 9 0) (q58 (q6 0 (q2 4 2) (q0 3)) q30))))))))))) q48)))))))))))))))))))))))))))
def cm_304 : tC := qm 22 [2] 12 9 cf_304
theorem sf_304 (d : Nat) (h : 6 ≤ d) : EF L xs d FF tr_304 cf_304 := (s_31 (s_32 (s_8 (sm_300 d (by omega)) (s_58 s_2 (s_58 s_0 (s_58 s_0 (s_58 s_0 s_57)))))) (s_31 (s_32 (s_8 (sm_300 d (by omega)) (s_58 s_2 (s_58 s_0 (s_58 s_0 (s_58 s_0 s_57)))))) (s_31 (s_32 (s_8 (sm_300 d (by omega)) (s_58 s_2 (s_58 s_0 (s_58 s_0 (s_58 s_0 s_57)))))) (s_31 (s_32 (s_12 s_0)) (s_31 (s_31 (s_32 s_0) (s_41 (s_20 s_2 s_0) (s_35 s_2 s_2 (s_8 (sm_292 d (by omega)) (s_58 s_2 (s_58 (s_3 s_0 s_2) s_57)))) s_33)) (s_31 (s_36 (s_8 (sm_303 d (by omega)) (s_58 s_2 (s_58 s_2 s_57)))) (s_31 (s_32 (s_8 (sm_292 d (by omega)) (s_58 s_2 (s_58 s_0 s_57)))) (s_31 (s_32 (s_8 (sm_292 d (by omega)) (s_58 s_2 (s_58 s_0 s_57)))) (s_31 (s_32 (s_8 (sm_293 d (by omega)) (s_58 s_2 (s_58 s_2 (s_58 s_2 s_57))))) (s_31 (s_32 (s_8 (sm_293 d (by omega)) (s_58 s_2 (s_58 s_0 (s_58 s_2 s_57))))) (s_31 (s_32 (s_8 (sm_293 d (by omega)) (s_58 s_2 (s_58 s_2 (s_58 s_0 s_57))))) (s_31 (s_32 (s_8 (sm_293 d (by omega)) (s_58 s_2 (s_58 s_0 (s_58 s_0 s_57))))) (s_31 (s_32 (s_8 (sm_294 d (by omega)) (s_58 s_2 (s_58 (s_6 (s_5 s_2) s_0) (s_58 (s_6 (s_5 s_2) s_0) s_57))))) (s_31 (s_32 (s_8 (sm_294 d (by omega)) (s_58 s_2 (s_58 s_2 (s_58 (s_6 (s_5 s_2) s_0) s_57))))) (s_31 (s_32 (s_8 (sm_301 d (by omega)) (s_58 s_2 (s_58 s_2 (s_58 s_2 (s_58 (s_8 (sm_302 d (by omega)) (s_58 s_0 s_57)) s_57)))))) (s_31 (s_32 (s_8 (sm_294 d (by omega)) (s_58 s_2 (s_58 (s_6 (s_5 s_2) s_0) (s_58 (s_6 (s_5 s_2) s_0) s_57))))) (s_31 (s_32 (s_12 s_0)) (s_31 (s_31 (s_32 s_0) (s_41 (s_20 s_2 s_0) (s_35 s_2 s_2 (s_8 (sm_295 d (by omega)) (s_58 s_2 (s_58 s_2 (s_58 (s_6 s_2 s_2) s_57))))) s_33)) (s_31 (s_32 (s_8 (sm_297 d (by omega)) (s_58 s_2 (s_58 s_2 (s_58 s_2 (s_58 s_2 s_57)))))) (s_31 (s_32 (s_8 (sm_295 d (by omega)) (s_58 s_2 (s_58 (s_6 s_2 s_0) (s_58 (s_6 s_2 s_0) s_57))))) (s_31 (s_32 (s_8 (sm_296 d (by omega)) (s_58 s_2 (s_58 s_2 (s_58 (s_6 s_2 s_0) (s_58 (s_6 s_2 s_0) s_57)))))) (s_31 (s_32 (s_12 s_0)) (s_31 (s_32 (s_12 s_0)) (s_31 (s_31 (s_32 s_0) (s_41 (s_20 s_2 s_0) (s_35 s_2 s_2 (s_8 (sm_293 d (by omega)) (s_58 s_2 (s_58 (s_6 s_2 s_2) (s_58 (s_6 s_2 s_2) s_57))))) s_33)) (s_31 (s_31 (s_32 s_0) (s_41 (s_20 s_2 s_0) (s_35 s_2 s_2 (s_8 (sm_295 d (by omega)) (s_58 s_2 (s_58 (s_6 s_2 s_2) (s_58 (s_6 s_2 s_2) s_57))))) s_33)) (s_31 (s_32 (s_8 (sm_305 d (by omega)) (s_58 s_2 (s_58 s_2 (s_58 s_2 (s_58 s_2 (s_58 s_2 (s_58 s_2 (s_58 s_2 (s_58 s_2 s_57)))))))))) (s_31 (s_36 (s_8 (sm_306 d (by omega)) (s_58 s_2 (s_58 s_2 (s_58 s_2 (s_58 s_2 (s_58 s_2 (s_58 s_2 (s_58 s_2 (s_58 s_2 (s_58 (s_6 s_2 s_0) s_57))))))))))) s_48)))))))))))))))))))))))))))
theorem sm_304 (d : Nat) (h : 7 ≤ d) : CM L xs d FF 304 cm_304 := by
  obtain ⟨e, rfl⟩ : ∃ e, d = e + 1 := ⟨d - 1, by omega⟩
  exact s_m rfl (sf_304 e (by omega)) rfl
/-- GatedPile.<init> -/
def cf_178 : tF := (q31 q56 (q31 (q34 10 0 (q2 0 2) (q10 7 cm_125 q30)) (q31 (q34 10 1 (q2 0 2) (q10 8 cm_163 q30)) (q31 (q34 10 2 (q2 0 2) (q10 2 cm_17 (q58 (q5 10 0 (q2 0 2)) q30))) (q31 (q34 10 3 (q2 0 2) (q10 5 cm_84 (q58 (q5 10 0 (q2 0 2)) (q58 (q5 10 1 (q2 0 2)) q30)))) (q31 (q34 10 4 (q2 0 2) (q10 3 cm_35 (q58 (q5 10 1 (q2 0 2)) q30))) (q31 (q34 10 5 (q2 0 2) (q10 6 cm_124 q30)) (q31 (q34 10 6 (q2 0 2) (q10 4 cm_83 q30)) (q31 (q34 10 7 (q2 0 2) (q10 1 cm_16 q30)) (q31 (q34 10 8 (q2 0 2) (q10 1 cm_16 q30)) (q31 (q36 (q8 cm_165 (q58 (q10 9 cm_164 (q58 (q5 10 5 (q2 0 2)) q30)) q30))) q48)))))))))))
def cm_178 : tC := qm 1 [2] 0 9 cf_178
theorem sf_178 (d : Nat) (h : 7 ≤ d) : EF L xs d FF tr_178 cf_178 := (s_31 s_56 (s_31 (s_34 s_2 (s_10 (sm_125 d (by omega)) s_57)) (s_31 (s_34 s_2 (s_10 (sm_163 d (by omega)) s_57)) (s_31 (s_34 s_2 (s_10 (sm_17 d (by omega)) (s_58 (s_5 s_2) s_57))) (s_31 (s_34 s_2 (s_10 (sm_84 d (by omega)) (s_58 (s_5 s_2) (s_58 (s_5 s_2) s_57)))) (s_31 (s_34 s_2 (s_10 (sm_35 d (by omega)) (s_58 (s_5 s_2) s_57))) (s_31 (s_34 s_2 (s_10 (sm_124 d (by omega)) s_57)) (s_31 (s_34 s_2 (s_10 (sm_83 d (by omega)) s_57)) (s_31 (s_34 s_2 (s_10 (sm_16 d (by omega)) s_57)) (s_31 (s_34 s_2 (s_10 (sm_16 d (by omega)) s_57)) (s_31 (s_36 (s_8 (sm_165 d (by omega)) (s_58 (s_10 (sm_164 d (by omega)) (s_58 (s_5 s_2) s_57)) s_57))) s_48)))))))))))
theorem sm_178 (d : Nat) (h : 8 ≤ d) : CM L xs d FF 178 cm_178 := by
  obtain ⟨e, rfl⟩ : ∃ e, d = e + 1 := ⟨d - 1, by omega⟩
  exact s_m rfl (sf_178 e (by omega)) rfl
/-- GatedPileModel.<init> -/
def cf_249 : tF := (q31 q56 (q31 (q34 11 0 (q2 0 2) (q12 0 (q0 3000))) (q31 (q34 11 2 (q2 0 2) (q12 0 (q0 3000))) (q31 (q34 11 5 (q2 0 2) (q12 0 (q0 3001))) (q31 (q34 11 6 (q2 0 2) (q12 0 (q0 3001))) (q31 (q34 11 7 (q2 0 2) (q12 1 (q0 3001))) (q31 (q34 11 8 (q2 0 2) (q12 1 (q0 14))) (q31 (q34 11 10 (q2 0 2) (q0 (-1))) (q31 (q34 11 18 (q2 0 2) (q12 1 (q0 1600))) (q31 (q34 11 19 (q2 0 2) (q12 0 (q0 1600))) (q31 (q34 11 20 (q2 0 2) (q12 0 (q0 1600))) (q31 (q34 11 22 (q2 0 2) (q12 0 (q0 1600))) (q31 (q34 11 23 (q2 0 2) (q12 0 (q0 1600))) (q31 (q34 11 26 (q2 0 2) (q12 0 (q0 1600))) (q31 (q34 11 27 (q2 0 2) (q12 0 (q0 1600))) (q31 (q34 11 32 (q2 0 2) (q12 1 (q0 1600))) (q31 (q34 11 34 (q2 0 2) (q12 0 (q0 1600))) (q31 (q34 11 35 (q2 0 2) (q12 0 (q0 1600))) (q31 (q34 11 37 (q2 0 2) (q12 0 (q0 1600))) (q31 (q34 11 38 (q2 0 2) (q12 0 (q0 800))) (q31 (q34 11 42 (q2 0 2) (q12 0 (q0 12000))) (q31 (q34 11 43 (q2 0 2) (q12 0 (q0 12000))) (q31 (q34 11 44 (q2 0 2) (q12 0 (q0 12000))) (q31 (q34 11 45 (q2 0 2) (q12 0 (q0 12000))) (q31 (q34 11 47 (q2 0 2) (q12 0 (q0 12000))) (q31 (q34 11 50 (q2 0 2) (q12 0 (q0 1600))) (q31 (q34 11 51 (q2 0 2) (q12 0 (q0 1600))) (q31 (q34 11 56 (q2 0 2) (q12 0 (q0 12000))) (q31 (q34 11 57 (q2 0 2) (q12 0 (q0 12000))) (q31 (q34 11 58 (q2 0 2) (q12 0 (q0 12000))) (q31 (q34 11 59 (q2 0 2) (q12 0 (q0 12000))) (q31 (q34 11 62 (q2 0 2) (q12 0 (q0 40))) (q31 (q34 11 63 (q2 0 2) (q12 0 (q0 40))) (q31 (q34 11 64 (q2 0 2) (q12 0 (q0 40))) (q31 (q34 11 65 (q2 0 2) (q12 0 (q0 40))) (q31 (q34 11 66 (q2 0 2) (q12 3 (q0 1600))) (q31 (q34 11 69 (q2 0 2) (q12 0 (q0 6001))) (q31 (q34 11 72 (q2 0 2) (q12 0 (q0 60))) (q31 (q34 11 73 (q2 0 2) (q12 0 (q0 70000))) (q31 (q34 11 77 (q2 0 2) (q12 0 (q0 36000))) (q31 (q34 11 78 (q2 0 2) (q12 0 (q0 36000))) (q31 (q34 11 79 (q2 0 2) (q12 3 (q0 36000))) (q31 (q34 11 81 (q2 0 2) (q12 0 (q0 36000))) (q31 (q34 11 82 (q2 0 2) (q12 0 (q0 36000))) (q31 (q34 11 86 (q2 0 2) (q0 212)) (q31 (q34 11 87 (q2 0 2) (q12 0 (q0 9000))) (q31 (q34 11 88 (q2 0 2) (q12 0 (q0 9000))) (q31 (q34 11 89 (q2 0 2) (q12 0 (q0 9000))) (q31 (q34 11 90 (q2 0 2) (q12 0 (q0 196))) (q31 (q34 11 92 (q2 0 2) (q12 0 (q0 16))) (q31 (q34 11 93 (q2 0 2) (q12 0 (q0 8192))) (q31 (q34 11 94 (q2 0 2) (q12 0 (q0 8))) (q31 (q34 11 102 (q2 0 2) (q12 0 (q0 200))) (q31 (q34 11 105 (q2 0 2) (q12 0 (q0 500))) (q31 (q34 11 107 (q2 0 2) (q12 0 (q0 30000))) (q31 (q34 11 109 (q2 0 2) (q12 0 (q0 4000))) (q31 (q34 11 110 (q2 0 2) (q12 0 (q0 4000))) (q31 (q34 11 112 (q2 0 2) (q12 0 (q0 30001))) (q31 (q34 11 113 (q2 0 2) (q12 0 (q0 60))) (q31 (q34 11 116 (q2 0 2) (q12 0 (q0 500))) (q31 (q34 11 117 (q2 0 2) (q12 3 (q0 9000))) (q31 (q32 1 2 (q0 46)) (q31 (q32 2 0 (q0 0)) (q31 (q32 3 0 (q0 0)) (q31 (q31 (q32 4 0 (q0 0)) (q41 FF (q20 2 (q2 4 0) (q8 cm_1 (q58 (q2 1 2) q30))) (q38 (q20 0 (q8 cm_4 (q58 (q2 1 2) (q58 (q2 4 0) q30))) (q0 32)) (q31 (q35 1 (q5 11 8 (q2 0 2)) (q2 3 0) (q8 cm_198 (q58 (q8 cm_7 (q58 (q2 1 2) (q58 (q2 2 0) (q58 (q2 4 0) q30)))) q30))) (q31 (q33 3 1) (q32 2 0 (q3 0 (q2 4 0) (q0 1)))))) (q33 4 1))) (q31 (q36 (q8 cm_304 (q58 (q2 0 2) q30))) q48))))))))))))))))))))))))))))))))))))))))))))))))))))))))))))))))))
def cm_249 : tC := qm 5 [2] 0 9 cf_249
theorem sf_249 (d : Nat) (h : 7 ≤ d) : EF L xs d FF tr_249 cf_249 := (s_31 s_56 (s_31 (s_34 s_2 (s_12 s_0)) (s_31 (s_34 s_2 (s_12 s_0)) (s_31 (s_34 s_2 (s_12 s_0)) (s_31 (s_34 s_2 (s_12 s_0)) (s_31 (s_34 s_2 (s_12 s_0)) (s_31 (s_34 s_2 (s_12 s_0)) (s_31 (s_34 s_2 s_0) (s_31 (s_34 s_2 (s_12 s_0)) (s_31 (s_34 s_2 (s_12 s_0)) (s_31 (s_34 s_2 (s_12 s_0)) (s_31 (s_34 s_2 (s_12 s_0)) (s_31 (s_34 s_2 (s_12 s_0)) (s_31 (s_34 s_2 (s_12 s_0)) (s_31 (s_34 s_2 (s_12 s_0)) (s_31 (s_34 s_2 (s_12 s_0)) (s_31 (s_34 s_2 (s_12 s_0)) (s_31 (s_34 s_2 (s_12 s_0)) (s_31 (s_34 s_2 (s_12 s_0)) (s_31 (s_34 s_2 (s_12 s_0)) (s_31 (s_34 s_2 (s_12 s_0)) (s_31 (s_34 s_2 (s_12 s_0)) (s_31 (s_34 s_2 (s_12 s_0)) (s_31 (s_34 s_2 (s_12 s_0)) (s_31 (s_34 s_2 (s_12 s_0)) (s_31 (s_34 s_2 (s_12 s_0)) (s_31 (s_34 s_2 (s_12 s_0)) (s_31 (s_34 s_2 (s_12 s_0)) (s_31 (s_34 s_2 (s_12 s_0)) (s_31 (s_34 s_2 (s_12 s_0)) (s_31 (s_34 s_2 (s_12 s_0)) (s_31 (s_34 s_2 (s_12 s_0)) (s_31 (s_34 s_2 (s_12 s_0)) (s_31 (s_34 s_2 (s_12 s_0)) (s_31 (s_34 s_2 (s_12 s_0)) (s_31 (s_34 s_2 (s_12 s_0)) (s_31 (s_34 s_2 (s_12 s_0)) (s_31 (s_34 s_2 (s_12 s_0)) (s_31 (s_34 s_2 (s_12 s_0)) (s_31 (s_34 s_2 (s_12 s_0)) (s_31 (s_34 s_2 (s_12 s_0)) (s_31 (s_34 s_2 (s_12 s_0)) (s_31 (s_34 s_2 (s_12 s_0)) (s_31 (s_34 s_2 (s_12 s_0)) (s_31 (s_34 s_2 s_0) (s_31 (s_34 s_2 (s_12 s_0)) (s_31 (s_34 s_2 (s_12 s_0)) (s_31 (s_34 s_2 (s_12 s_0)) (s_31 (s_34 s_2 (s_12 s_0)) (s_31 (s_34 s_2 (s_12 s_0)) (s_31 (s_34 s_2 (s_12 s_0)) (s_31 (s_34 s_2 (s_12 s_0)) (s_31 (s_34 s_2 (s_12 s_0)) (s_31 (s_34 s_2 (s_12 s_0)) (s_31 (s_34 s_2 (s_12 s_0)) (s_31 (s_34 s_2 (s_12 s_0)) (s_31 (s_34 s_2 (s_12 s_0)) (s_31 (s_34 s_2 (s_12 s_0)) (s_31 (s_34 s_2 (s_12 s_0)) (s_31 (s_34 s_2 (s_12 s_0)) (s_31 (s_34 s_2 (s_12 s_0)) (s_31 (s_32 s_17) (s_31 (s_32 s_0) (s_31 (s_32 s_0) (s_31 (s_31 (s_32 s_0) (s_41 (s_20 s_2 (s_8 (sm_1 d (by omega)) (s_58 s_2 s_57))) (s_38 (s_20 (s_8 (sm_4 d (by omega)) (s_58 s_2 (s_58 s_2 s_57))) s_0) (s_31 (s_35 (s_5 s_2) s_2 (s_8 (sm_198 d (by omega)) (s_58 (s_8 (sm_7 d (by omega)) (s_58 s_2 (s_58 s_2 (s_58 s_2 s_57)))) s_57))) (s_31 s_33 (s_32 (s_3 s_2 s_0))))) s_33)) (s_31 (s_36 (s_8 (sm_304 d (by omega)) (s_58 s_2 s_57))) s_48))))))))))))))))))))))))))))))))))))))))))))))))))))))))))))))))))
theorem sm_249 (d : Nat) (h : 8 ≤ d) : CM L xs d FF 249 cm_249 := by
  obtain ⟨e, rfl⟩ : ∃ e, d = e + 1 := ⟨d - 1, by omega⟩
  exact s_m rfl (sf_249 e (by omega)) rfl
end Reach
