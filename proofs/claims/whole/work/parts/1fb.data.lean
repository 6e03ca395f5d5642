/-! THE ORDERS OF CLASS AND MODEL HAVE THE SAME ITEMS -/
/-- the bits of order i, out of the flags -/
def JE (M : Mem) (E : Nat → Int) (i : Nat) : Int := (if 0 < gNo (M 177 i) ∧ E (gsm M i) = 1 then 1 else 0) + (if M 177 i = 11 ∧ E (gsm M i + 1) = 1 then 2 else 0)
theorem JE_b {M : Mem} {E : Nat → Int} {i : Nat} : 0 ≤ JE M E i ∧ JE M E i < 4 := by
  unfold JE
  split <;> split <;> omega
theorem fB_tab : fB 0 0 = false ∧ fB 1 0 = true ∧ fB 2 0 = false ∧ fB 3 0 = true ∧ fB 0 1 = false ∧ fB 1 1 = false ∧ fB 2 1 = true ∧ fB 3 1 = true := by decide +kernel
theorem JE_0 {M : Mem} {E : Nat → Int} {i : Nat} (h : 0 < gNo (M 177 i)) : fB (JE M E i) 0 = decide (E (gsm M i) = 1) := by
  obtain ⟨t0, t1, t2, t3, _⟩ := fB_tab
  unfold JE
  by_cases c : E (gsm M i) = 1
  · rw [if_pos ⟨h, c⟩, decide_eq_true c]
    by_cases c2 : M 177 i = 11 ∧ E (gsm M i + 1) = 1
    · rw [if_pos c2]; exact t3
    · rw [if_neg c2]; exact t1
  · rw [if_neg (fun w => c w.2), decide_eq_false c]
    by_cases c2 : M 177 i = 11 ∧ E (gsm M i + 1) = 1
    · rw [if_pos c2]; exact t2
    · rw [if_neg c2]; exact t0
theorem JE_1 {M : Mem} {E : Nat → Int} {i : Nat} (h : M 177 i = 11) : fB (JE M E i) 1 = decide (E (gsm M i + 1) = 1) := by
  obtain ⟨_, _, _, _, t0, t1, t2, t3⟩ := fB_tab
  unfold JE
  by_cases c : E (gsm M i + 1) = 1
  · rw [if_pos (show M 177 i = 11 ∧ E (gsm M i + 1) = 1 from ⟨h, c⟩), decide_eq_true c]
    by_cases c2 : 0 < gNo (M 177 i) ∧ E (gsm M i) = 1
    · rw [if_pos c2]; exact t3
    · rw [if_neg c2]; exact t2
  · rw [if_neg (fun w : M 177 i = 11 ∧ E (gsm M i + 1) = 1 => c w.2), decide_eq_false c]
    by_cases c2 : 0 < gNo (M 177 i) ∧ E (gsm M i) = 1
    · rw [if_pos c2]; exact t1
    · rw [if_neg c2]; exact t0
/-- the data of order i: the class's (p: parameters of its proc) and the model's (c: its proc) -/
def DO (m : Mem) (cd : Nat) (M : Mem) (p c : Int) (i : Nat) : Prop := m (cd + 1) i = M 177 i ∧ m (cd + 2) i = M 178 i ∧ (0 < gNo (M 177 i) → m (cd + 3) i = M 181 (M 179 i).toNat) ∧ p = M 170 c.toNat ∧ (M 177 i = 6 ∨ M 177 i = 7 → LNc m (M 178 i) = M 168 (M 178 i).toNat) ∧ (M 177 i = 17 → ENc m cd (M 178 i) = M 182 (M 178 i).toNat) ∧ (M 177 i = 23 → FRc m cd (M 178 i) = szM M (M 178 i).toNat) ∧ (M 177 i = 0 ∨ M 177 i = 22 ∨ M 177 i = 26 → p = M 170 (M 178 i).toNat) ∧ (M 177 i = 0 → WAc m cd (M 178 i) = wtM M (M 178 i).toNat ∧ FRc m cd (M 178 i) = szM M (M 178 i).toNat) ∧ (M 177 i = 26 → csC m (M 178 i) = csM M (M 178 i))
section Dat
variable {cd : Nat} {m M : Mem} {p0 : Int} {E : Nat → Int}
theorem dC_dM (hc : cd = 83 ∨ cd = 93) {i : Nat} (hO : MO M (M 177 i) (M 178 i) (M 179 i)) (D : DO m cd M (cpC m cd p0 (i + 1)) (cq M 0 (i + 1)) i) (hcq : cq (fv E M) 0 (i + 1) = cq M 0 (i + 1)) : dC m cd p0 (JE M E i) i = dM (fv E M) 0 (gsm M i) i := by
  obtain ⟨d1, d2, d3, d4, d5, d6, d7, d8, d9, d10⟩ := D
  obtain ⟨o1, o2, o3, o4, o5, o6⟩ := hO
  have ecs : csC (qv cd (fun _ => 0) 0 (cpC m cd p0 (i + 1)) m) (M 178 i) = csC m (M 178 i) := by
    unfold csC
    rcases hc with rfl | rfl
    · exact rcL_c (m := qv 83 (fun _ => 0) 0 (cpC m 83 p0 (i + 1)) m) (m2 := m) (fun _ => rfl) (fun _ => rfl) _ _
    · exact rcL_c (m := qv 93 (fun _ => 0) 0 (cpC m 93 p0 (i + 1)) m) (m2 := m) (fun _ => rfl) (fun _ => rfl) _ _
  have ecm : csM (pv (fun _ => 0) (cq (fv E M) 0 (i + 1)) (fv E M)) (M 178 i) = csM M (M 178 i) := by
    unfold csM
    exact rcM_c (m := pv (fun _ => 0) (cq (fv E M) 0 (i + 1)) (fv E M)) (m2 := M) (fun _ => rfl) _ _
  have a1 : qv cd (fun _ => 0) 0 (cpC m cd p0 (i + 1)) m (cd + 1) i = M 177 i := by rw [← d1]; rcases hc with rfl | rfl <;> rfl
  have a2 : qv cd (fun _ => 0) 0 (cpC m cd p0 (i + 1)) m (cd + 2) i = M 178 i := by rw [← d2]; rcases hc with rfl | rfl <;> rfl
  have a3 : qv cd (fun _ => 0) 0 (cpC m cd p0 (i + 1)) m (cd + 3) i = m (cd + 3) i := by rcases hc with rfl | rfl <;> rfl
  have a4 : ∀ x, FRc (qv cd (fun _ => 0) 0 (cpC m cd p0 (i + 1)) m) cd x = FRc m cd x := fun x => by rcases hc with rfl | rfl <;> rfl
  have a5 : ∀ x, WAc (qv cd (fun _ => 0) 0 (cpC m cd p0 (i + 1)) m) cd x = WAc m cd x := fun x => by rcases hc with rfl | rfl <;> rfl
  have a6 : ∀ x, ENc (qv cd (fun _ => 0) 0 (cpC m cd p0 (i + 1)) m) cd x = ENc m cd x := fun x => by rcases hc with rfl | rfl <;> rfl
  have a7 : ∀ x, LNc (qv cd (fun _ => 0) 0 (cpC m cd p0 (i + 1)) m) x = LNc m x := fun x => by rcases hc with rfl | rfl <;> rfl
  have a8 : ∀ x, IFc (qv cd (fun _ => 0) 0 (cpC m cd p0 (i + 1)) m) x = if x < cpC m cd p0 (i + 1) then x else x + 2 := fun x => rfl
  have a9 : qv cd (fun _ => 0) 0 (cpC m cd p0 (i + 1)) m 71 6 = cpC m cd p0 (i + 1) := rfl
  have b8 : ∀ x, IFm (pv (fun _ => 0) (cq (fv E M) 0 (i + 1)) (fv E M)) x = if x < M 170 (cq (fv E M) 0 (i + 1)).toNat then x else x + 2 := fun x => rfl
  unfold dC dM itC itM
  rw [a1, a2, a3, a4, a5, ecs]
  show _ = itO (M 177 i) (fM (fv E M) ((gsm M i : Nat) : Int)) (fM (fv E M) ((gsm M i : Nat) + 1)) (M 181 (M 179 i).toNat) (M 178 i) (yM (pv (fun _ => 0) (cq (fv E M) 0 (i + 1)) (fv E M)) (M 177 i) (M 178 i)) (wtM M (M 178 i).toNat) (szM M (M 178 i).toNat) (csM (pv (fun _ => 0) (cq (fv E M) 0 (i + 1)) (fv E M)) (M 178 i))
  rw [ecm]
  refine itO_c o1 o4 (fun h => ?_) (fun h => ?_) d3 (fun h => ?_) (fun h => (d9 h).1) (fun h => (d9 h).2) d10
  · rw [JE_0 h]
    unfold fM
    rw [Int.toNat_natCast]
    rfl
  · rw [JE_1 h]
    unfold fM
    rw [show (((gsm M i : Nat) : Int) + 1).toNat = gsm M i + 1 by omega]
    rfl
  · unfold yC yM
    by_cases h1 : M 177 i = 2 ∨ M 177 i = 3
    · rw [if_pos h1, if_pos h1, a8, b8, hcq, ← d4]
    · rw [if_neg h1, if_neg h1]
      by_cases h2 : M 177 i = 6 ∨ M 177 i = 7
      · rw [if_pos h2, if_pos h2, a7, d5 h2]
        rfl
      · rw [if_neg h2, if_neg h2]
        by_cases h3 : M 177 i = 17
        · rw [if_pos h3, if_pos h3, a6, d6 h3]
          rfl
        · rw [if_neg h3, if_neg h3]
          by_cases h4 : M 177 i = 23
          · rw [if_pos h4, if_pos h4, a4, d7 h4]
            rfl
          · rw [if_neg h4, if_neg h4, a9]
            exact d8 (by omega)
theorem cq_fv : ∀ i, cq (fv E M) 0 i = cq M 0 i
  | 0 => rfl
  | i + 1 => by
    show (if M 177 i = 0 then M 178 i else cq (fv E M) 0 i) = if M 177 i = 0 then M 178 i else cq M 0 i
    rw [cq_fv i]
theorem clI_mlI (hc : cd = 83 ∨ cd = 93) {n : Nat} (hO : OK0 M n) (D : ∀ i, i < n → DO m cd M (cpC m cd p0 (i + 1)) (cq M 0 (i + 1)) i) : ∀ i, i ≤ n → clI m cd p0 (JE M E) i = mlI (fv E M) 0 i
  | 0 => fun _ => rfl
  | i + 1 => fun hi => by
    show clI m cd p0 (JE M E) i ++ dC m cd p0 (JE M E i) i = mlI (fv E M) 0 i ++ dM (fv E M) 0 (ngo (mlI (fv E M) 0 i)) i
    rw [clI_mlI hc hO D i (by omega), ngo_ml (M := fv E M) hO i (by omega), gsm_f, dC_dM hc (hO i (by omega)) (D i (by omega)) (cq_fv (i + 1))]
end Dat
