/-! SIZES GROW WITH THE FLAGS -/
section Grw
variable {M : Mem} {E E2 : Nat → Int}
theorem dM_f {g i : Nat} : dM (fv E M) 0 g i = itO (M 177 i) (decide (E g = 1)) (decide (E (g + 1) = 1)) (M 181 (M 179 i).toNat) (M 178 i) (yM (pv (fun _ => 0) (cq M 0 (i + 1)) M) (M 177 i) (M 178 i)) (wtM M (M 178 i).toNat) (szM M (M 178 i).toNat) (csM M (M 178 i)) := by
  have ecm : csM (pv (fun _ => 0) (cq (fv E M) 0 (i + 1)) (fv E M)) (M 178 i) = csM M (M 178 i) := by
    unfold csM
    exact rcM_c (m := pv (fun _ => 0) (cq (fv E M) 0 (i + 1)) (fv E M)) (m2 := M) (fun _ => rfl) _ _
  have e0 : fM (fv E M) ((g : Nat) : Int) = decide (E g = 1) := by
    unfold fM
    rw [Int.toNat_natCast]
    rfl
  have e1 : fM (fv E M) ((g : Nat) + 1) = decide (E (g + 1) = 1) := by
    unfold fM
    rw [show (((g : Nat) : Int) + 1).toNat = g + 1 by omega]
    rfl
  unfold dM itM
  show itO (M 177 i) (fM (fv E M) ((g : Nat) : Int)) (fM (fv E M) ((g : Nat) + 1)) (M 181 (M 179 i).toNat) (M 178 i) (yM (pv (fun _ => 0) (cq (fv E M) 0 (i + 1)) (fv E M)) (M 177 i) (M 178 i)) (wtM M (M 178 i).toNat) (szM M (M 178 i).toNat) (csM (pv (fun _ => 0) (cq (fv E M) 0 (i + 1)) (fv E M)) (M 178 i)) = _
  rw [ecm, e0, e1, cq_fv]
  rfl
theorem ml_grow {n : Nat} (hO : OK0 M n) (h : ∀ q, E q = 1 → E2 q = 1) : ∀ i, i ≤ n → (mlI (fv E M) 0 i).length ≤ (mlI (fv E2 M) 0 i).length
  | 0 => fun _ => Nat.le_refl _
  | i + 1 => fun hi => by
    obtain ⟨o1, o2, o3, o4, o5, o6⟩ := hO i (by omega)
    have ih := ml_grow hO h i (by omega)
    show (mlI (fv E M) 0 i ++ dM (fv E M) 0 (ngo (mlI (fv E M) 0 i)) i).length ≤ (mlI (fv E2 M) 0 i ++ dM (fv E2 M) 0 (ngo (mlI (fv E2 M) 0 i)) i).length
    rw [List.length_append, List.length_append, ngo_ml (M := fv E M) hO i (by omega), ngo_ml (M := fv E2 M) hO i (by omega), gsm_f, gsm_f, dM_f, dM_f]
    refine Nat.add_le_add ih (itO_m o1 o4 (fun z => ?_) (fun z => ?_))
    · exact decide_eq_true (h _ (of_decide_eq_true z))
    · exact decide_eq_true (h _ (of_decide_eq_true z))
theorem st_grow {e : Int} {n : Nat} : ∀ q, E q = 1 → stE M e n E q = 1 := fun q h => by
  unfold stE
  split
  · rfl
  · exact h
theorem itr_grow {e : Int} {n : Nat} : ∀ (k : Nat) (E : Nat → Int) (q : Nat), E q = 1 → itr M e n k E q = 1
  | 0, E, q => fun h => h
  | k + 1, E, q => fun h => by
    show (if chE M e n E = true then itr M e n k (stE M e n E) else E) q = 1
    split
    · exact itr_grow k _ q (st_grow q h)
    · exact h
end Grw
