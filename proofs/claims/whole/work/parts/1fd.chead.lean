/-! THE CLASS'S HEAD AND TABLES, as items -/
theorem hd_C {m : Mem} {cd cur : Nat} {mn : Int} {S : lS} (h : 0 ≤ ENc m cd mn) : eS (m 71 3) (tbL tv_2 0 44) (eS (m 71 3) (tbL tv_1 0 30) (o_H m cd mn S)) = cI (m 71 3) (PLc m cd) (nC m cd) cur (hdI (ENc m cd mn)) S := by
  have h1 : m cd 12 + m 57 8 = nC m cd (-1) := by
    unfold nC
    rw [if_neg (by decide), if_pos rfl]
  have h2 : PLc m cd (ENc m cd mn) = nC m cd (ENc m cd mn) := nC_p h
  have s1 : eS (m 71 3) [wrd 6 4 0 (lw 6 0)] S = cI (m 71 3) (PLc m cd) (nC m cd) cur (iL 6 4 0 0) S := eS_I [wrd 6 4 0 (lw 6 0)] S
  have s2 := plS_I (wr := m 71 3) (P := PLc m cd) (N := nC m cd) (cur := cur) (r := 7) (t := -1) (S := eS (m 71 3) [wrd 6 4 0 (lw 6 0)] S) h1
  have s3 := fun S => eS_I (wr := m 71 3) (P := PLc m cd) (N := nC m cd) (cur := cur) [wrd 10 6 7 (lw 10 0)] S
  have s4 := fun S => plS_I (wr := m 71 3) (P := PLc m cd) (N := nC m cd) (cur := cur) (r := 5) (t := ENc m cd mn) (S := S) h2
  have s5 := fun S => eS_I (wr := m 71 3) (P := PLc m cd) (N := nC m cd) (cur := cur) [wrd 13 5 5 0] S
  have s6 := fun S => eS_I (wr := m 71 3) (P := PLc m cd) (N := nC m cd) (cur := cur) [wrd 15 0 0 (lw 15 0)] S
  have s7 := fun S => eS_I (wr := m 71 3) (P := PLc m cd) (N := nC m cd) (cur := cur) (tbL tv_1 0 30) S
  have s8 := fun S => eS_I (wr := m 71 3) (P := PLc m cd) (N := nC m cd) (cur := cur) (tbL tv_2 0 44) S
  have sL : ∀ S, eS (m 71 3) (cLib (PLc m cd (ENc m cd mn))) S = eS (m 71 3) [wrd 13 5 5 0] (eS (m 71 3) (cPl 5 (PLc m cd (ENc m cd mn))) S) := fun S => by
    rw [eS_app]
    rfl
  unfold o_H hdI
  rw [sL, s8, s7, s6, s5, s4, s3, s2, s1]
  rw [← cI_app, ← cI_app, ← cI_app, ← cI_app, ← cI_app, ← cI_app, ← cI_app]
  rfl
section Hdc
variable {F L d : Nat} {xs : Nat → Int32} {S : lS} {cd : Nat} {M : Mem} {n : Nat} {mn : Int}
/-- head and tables, in any turn -/
theorem C_hd (X : LX cd M) (hF : 100000 ≤ F) (hS : 0 ≤ S.1 ∧ S.1 ≤ 800000) (h0n : 0 ≤ M 57 4) (h4 : M 57 4 < 1510) (h7 : M 57 7 ≤ 300) (hf : fst1 (M 58) 660205 0 (M 57 4).toNat ≠ -1) (hmn : mnC M = mn) (h8 : 0 ≤ M 57 8 ∧ M 57 8 ≤ 1000000) : Cx F (d + 10) 37 [71] (Hp L xs (lyS S cd M)) = some ([], Hp L xs (lyS (o_H M cd mn S) cd M)) ∧ Cx F (d + 10) 38 [71, 1] (Hp L xs (lyS (o_H M cd mn S) cd M)) = some ([], Hp L xs (lyS (eS (M 71 3) (tbL tv_1 0 30) (o_H M cd mn S)) cd M)) ∧ Cx F (d + 10) 38 [71, 2] (Hp L xs (lyS (eS (M 71 3) (tbL tv_1 0 30) (o_H M cd mn S)) cd M)) = some ([], Hp L xs (lyS (eS (M 71 3) (tbL tv_2 0 44) (eS (M 71 3) (tbL tv_1 0 30) (o_H M cd mn S))) cd M)) := by
  have e1 : (o_H M cd mn S).1 = S.1 + 8 := by
    show S.1 + ((1 : Nat) : Int) + ((2 : Nat) : Int) + ((1 : Nat) : Int) + ((3 : Nat) : Int) + ((1 : Nat) : Int) = S.1 + 8
    omega
  have e2 : (eS (M 71 3) (tbL tv_1 0 30) (o_H M cd mn S)).1 = S.1 + 38 := by
    show (o_H M cd mn S).1 + ((30 : Nat) : Int) = S.1 + 38
    rw [e1]
    omega
  refine ⟨C_37 (d := d) (n := 0) X hF ⟨hS.1, by omega⟩ (by omega) h0n h4 h7 hf hmn h8, ?_, ?_⟩
  · exact C_38_1 (d := d + 8) (n := 0) X.1 hF ⟨by rw [e1]; omega, by rw [e1]; omega⟩ (by omega)
  · exact C_38_2 (d := d + 8) (n := 0) X.1 hF ⟨by rw [e2]; omega, by rw [e2]; omega⟩ (by omega)
end Hdc
