/-! ONE STEP OF THE FLAGS: as the model takes it, told by goX -/
def itA (M : Mem) (E : Nat → Int) (e : Int) (n : Nat) : List It := hdI e ++ mlI (fv E M) 0 n
def pA (M : Mem) (E : Nat → Int) (n : Nat) (t : Int) : Int := if t.toNat < n then 82 + ((mlI (fv E M) 0 t.toNat).length : Int) else 0
def stE (M : Mem) (e : Int) (n : Nat) (E : Nat → Int) : Nat → Int := fun q => if goX (pA M E n) (itA M E e n) 0 q = true then 1 else E q
def chE (M : Mem) (e : Int) (n : Nat) (E : Nat → Int) : Bool := cX (pA M E n) (itA M E e n) 0
abbrev b01 (E : Nat → Int) : Prop := ∀ q, E q = 0 ∨ E q = 1
theorem cq_c {m : Mem} {c0 c1 : Int} (h : m 177 0 = 0) : ∀ i, cq m c0 (i + 1) = cq m c1 (i + 1)
  | 0 => by
    show (if m 177 0 = 0 then m 178 0 else c0) = if m 177 0 = 0 then m 178 0 else c1
    rw [if_pos h, if_pos h]
  | i + 1 => by
    show (if m 177 (i + 1) = 0 then m 178 (i + 1) else cq m c0 (i + 1)) = if m 177 (i + 1) = 0 then m 178 (i + 1) else cq m c1 (i + 1)
    rw [cq_c h i]
theorem mlI_c {m : Mem} {c0 c1 : Int} (h : m 177 0 = 0) : ∀ i, mlI m c0 i = mlI m c1 i
  | 0 => rfl
  | i + 1 => by
    show mlI m c0 i ++ dM m c0 (ngo (mlI m c0 i)) i = mlI m c1 i ++ dM m c1 (ngo (mlI m c1 i)) i
    rw [mlI_c h i]
    unfold dM
    rw [cq_c (c1 := c1) h i]
theorem kO_ml {M : Mem} {n : Nat} (hO : OK0 M n) : ∀ i, i ≤ n → kO (fun q => fM M (q : Int)) (mlI M 0 i) 0
  | 0 => fun _ => trivial
  | i + 1 => fun hi => by
    obtain ⟨o1, o2, o3, o4, o5, o6⟩ := hO i (by omega)
    show kO (fun q => fM M (q : Int)) (mlI M 0 i ++ dM M 0 (ngo (mlI M 0 i)) i) 0
    rw [kO_app]
    refine ⟨kO_ml hO i (by omega), ?_⟩
    rw [Nat.zero_add]
    exact itO_k o1 o4 (fun _ => rfl) (fun _ => rfl)
theorem kO_hd {F : Nat → Bool} {e : Int} : kO F (hdI e) 0 := by
  unfold hdI
  simp only [kO_app, kO_L, kO_N, kO_m, true_and]
theorem kO_A {M : Mem} {n : Nat} {E : Nat → Int} {e : Int} (hO : OK0 M n) : kO (fun q => decide (E q = 1)) (itA M E e n) 0 := by
  unfold itA
  rw [kO_app, hdI_g.1]
  refine ⟨kO_hd, ?_⟩
  have z := kO_ml (M := fv E M) hO n (Nat.le_refl _)
  exact z
theorem goX_c {P P2 : Int → Int} : ∀ (l : List It) (A : Int) (g : Nat), (∀ i, i ∈ l → isG i → P i.2.2 = P2 i.2.2) → goX P l A g = goX P2 l A g
  | [], A, g => fun _ => rfl
  | i :: l, A, g => fun h => by
    have ih := fun A g => goX_c (P := P) (P2 := P2) l A g (fun j hj => h j (List.mem_cons_of_mem _ hj))
    show (if isG i then (match g with | 0 => decide (i.2.1 = 1 ∧ outR (P i.2.2) A) | g + 1 => goX P l (A + 1) g) else goX P l (A + 1) g) = if isG i then (match g with | 0 => decide (i.2.1 = 1 ∧ outR (P2 i.2.2) A) | g + 1 => goX P2 l (A + 1) g) else goX P2 l (A + 1) g
    by_cases hg : isG i
    · rw [if_pos hg, if_pos hg, h i (List.mem_cons_self ..) hg]
      cases g with
      | zero => rfl
      | succ g => exact ih (A + 1) g
    · rw [if_neg hg, if_neg hg, ih]
theorem goX_z {P : Int → Int} : ∀ (l : List It) (A : Int) (g : Nat), ngo l ≤ g → goX P l A g = false
  | [], A, g => fun _ => rfl
  | i :: l, A, g => fun h => by
    have eg : ∀ q, goX P (i :: l) A q = if isG i then (match q with | 0 => decide (i.2.1 = 1 ∧ outR (P i.2.2) A) | q + 1 => goX P l (A + 1) q) else goX P l (A + 1) q := fun q => rfl
    have h2 : (if isG i then 1 else 0) + ngo l ≤ g := h
    rw [eg]
    by_cases hg : isG i
    · rw [if_pos hg] at h2 ⊢
      obtain ⟨g, rfl⟩ : ∃ g', g = g' + 1 := ⟨g - 1, by omega⟩
      exact goX_z l (A + 1) g (by omega)
    · rw [if_neg hg] at h2 ⊢
      exact goX_z l (A + 1) g (by omega)
theorem anyB_x {X : Mem} {E : Nat → Int} : ∀ (j k : Nat), (anyB X E j k = true ↔ ∃ q, k ≤ q ∧ q < k + j ∧ bad X E q)
  | 0, k => ⟨fun h => Bool.noConfusion h, fun ⟨q, a, b, _⟩ => by omega⟩
  | j + 1, k => by
    have ih := anyB_x (X := X) (E := E) j (k + 1)
    show (decide (bad X E k) || anyB X E j (k + 1)) = true ↔ _
    rw [Bool.or_eq_true, ih, decide_eq_true_iff]
    constructor
    · rintro (a | ⟨q, a, b, c⟩)
      · exact ⟨k, by omega, by omega, a⟩
      · exact ⟨q, by omega, by omega, c⟩
    · rintro ⟨q, a, b, c⟩
      by_cases h : q = k
      · subst h
        exact Or.inl c
      · exact Or.inr ⟨q, by omega, by omega, c⟩
/-- the model's memory behind a laying -/
def lyd (T : mSt) (Q : Nat → Int) (M : Mem) (E : Nat → Int) (e : Int) (n : Nat) : Mem := my (mI (itA M E e n) (rs T)) (pv (plq 82 (fv E M) 0 Q n) (cq (fv E M) 0 n) (fv E M))
theorem bad_go {T : mSt} {Q : Nat → Int} {M : Mem} {E : Nat → Int} {e : Int} {n : Nat} (hO : OK0 M n) (hE : b01 E) (hL : ∀ i, i ∈ itA M E e n → isG i → 0 ≤ i.2.2 ∧ i.2.2 < n) {q : Nat} (hq : q < ngo (itA M E e n)) : (bad (lyd T Q M E e n) E q ↔ goX (pA M E n) (itA M E e n) 0 q = true) := by
  have h1 := (mI_ok (itA M E e n) (rs T) (Int.le_refl 0) (Int.le_refl 0) (Int.le_refl 0)).2.1
  have h2 := kO_A (M := M) (n := n) (E := E) (e := e) hO
  have h3 := goX_k (P := fun t => plq 82 (fv E M) 0 Q n t.toNat) (itA M E e n) 0 0 h1 h2 q hq
  have h4 : goX (pA M E n) (itA M E e n) 0 q = goX (fun t => plq 82 (fv E M) 0 Q n t.toNat) (itA M E e n) 0 q := goX_c _ _ _ (fun i hi hg => by
    obtain ⟨a, b⟩ := hL i hi hg
    unfold pA plq
    rw [if_pos (by omega), if_pos (by omega)])
  rw [h4, h3, decide_eq_true_iff, Nat.zero_add]
  have e0 : (decide (E q = 1) = false) ↔ E q = 0 := by
    rw [decide_eq_false_iff_not]
    rcases hE q with z | z
    · exact ⟨fun _ => z, fun _ => by omega⟩
    · exact ⟨fun w => absurd z w, fun w => by omega⟩
  rw [e0]
  exact Iff.rfl
theorem fcl_st {T : mSt} {Q : Nat → Int} {M : Mem} {E : Nat → Int} {e : Int} {n : Nat} (hO : OK0 M n) (hE : b01 E) (hL : ∀ i, i ∈ itA M E e n → isG i → 0 ≤ i.2.2 ∧ i.2.2 < n) : fcl (lyd T Q M E e n) E 0 (0 + ngo (itA M E e n)) = stE M e n E := by
  funext q
  unfold fcl stE
  by_cases hq : q < ngo (itA M E e n)
  · have z := bad_go (T := T) (Q := Q) hO hE hL hq
    by_cases c : bad (lyd T Q M E e n) E q
    · rw [if_pos ⟨by omega, c⟩, if_pos (z.mp c)]
    · rw [if_neg (fun w => c w.2), if_neg (fun w => c (z.mpr w))]
  · rw [if_neg (by omega), goX_z _ _ _ (by omega), if_neg (fun w => Bool.noConfusion w)]
theorem any_ch {T : mSt} {Q : Nat → Int} {M : Mem} {E : Nat → Int} {e : Int} {n : Nat} (hO : OK0 M n) (hE : b01 E) (hL : ∀ i, i ∈ itA M E e n → isG i → 0 ≤ i.2.2 ∧ i.2.2 < n) : anyB (lyd T Q M E e n) E (ngo (itA M E e n)) 0 = chE M e n E := by
  have a1 := anyB_x (X := lyd T Q M E e n) (E := E) (ngo (itA M E e n)) 0
  have a2 := cX_go (P := pA M E n) (itA M E e n) 0
  have a3 : (anyB (lyd T Q M E e n) E (ngo (itA M E e n)) 0 = true ↔ chE M e n E = true) := by
    unfold chE
    rw [a1, a2]
    constructor
    · rintro ⟨q, _, b, c⟩
      exact ⟨q, by omega, (bad_go hO hE hL (by omega)).mp c⟩
    · rintro ⟨q, b, c⟩
      exact ⟨q, by omega, by omega, (bad_go hO hE hL b).mpr c⟩
  exact Bool.eq_iff_iff.mpr a3
