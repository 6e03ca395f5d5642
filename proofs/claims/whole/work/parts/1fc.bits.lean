/-! THE BITS OF THE CLASS TAKE THE MODEL'S STEP -/
section Bts
variable {cd : Nat} {m M : Mem} {p0 e : Int} {E : Nat → Int}
theorem JE_0n {i : Nat} (h : ¬ 0 < gNo (M 177 i)) : fB (JE M E i) 0 = false := by
  obtain ⟨t0, t1, t2, t3, _⟩ := fB_tab
  unfold JE
  rw [if_neg (fun w => h w.1)]
  by_cases c2 : M 177 i = 11 ∧ E (gsm M i + 1) = 1
  · rw [if_pos c2]; exact t2
  · rw [if_neg c2]; exact t0
theorem JE_1n {i : Nat} (h : ¬ M 177 i = 11) : fB (JE M E i) 1 = false := by
  obtain ⟨_, _, _, _, t0, t1, t2, t3⟩ := fB_tab
  unfold JE
  rw [if_neg (fun w : M 177 i = 11 ∧ E (gsm M i + 1) = 1 => h w.1)]
  by_cases c2 : 0 < gNo (M 177 i) ∧ E (gsm M i) = 1
  · rw [if_pos c2]; exact t1
  · rw [if_neg c2]; exact t0
theorem fB_eq {a b : Int} (ha : 0 ≤ a ∧ a < 4) (hb : 0 ≤ b ∧ b < 4) (h0 : fB a 0 = fB b 0) (h1 : fB a 1 = fB b 1) : a = b := by
  have za := fB_v a.toNat (by omega)
  have zb := fB_v b.toNat (by omega)
  rw [show ((a.toNat : Nat) : Int) = a by omega] at za
  rw [show ((b.toNat : Nat) : Int) = b by omega] at zb
  rw [za, zb, h0, h1]
theorem gsm_m {q : Nat} : ∀ n, q ≤ n → gsm M q ≤ gsm M n
  | 0 => fun h => by
    have : q = 0 := by omega
    subst this
    exact Nat.le_refl _
  | n + 1 => fun h => by
    by_cases c : q = n + 1
    · subst c
      exact Nat.le_refl _
    · have := gsm_m (q := q) n (by omega)
      show gsm M q ≤ gsm M n + gNo (M 177 n)
      omega
theorem goX_ml {P : Int → Int} {q b : Nat} {A : Int} (hb : b < gNo (M 177 q)) : ∀ n, OK0 M n → q < n → goX P (mlI M 0 n) A (gsm M q + b) = goX P (dM M 0 (gsm M q) q) (A + ((mlI M 0 q).length : Int)) b
  | 0 => fun _ h => absurd h (Nat.not_lt_zero _)
  | n + 1 => fun hO h => by
    have hO2 : OK0 M n := fun i hi => hO i (by omega)
    have en := ngo_ml hO2 n (Nat.le_refl _)
    have el : mlI M 0 (n + 1) = mlI M 0 n ++ dM M 0 (ngo (mlI M 0 n)) n := rfl
    rw [el, goX_app, en]
    by_cases c : q = n
    · subst c
      rw [if_neg (by omega), show gsm M q + b - gsm M q = b by omega]
    · have z := gsm_m (M := M) (q := q + 1) n (by omega)
      have z2 : gsm M (q + 1) = gsm M q + gNo (M 177 q) := rfl
      rw [if_pos (by omega)]
      exact goX_ml hb n hO2 (by omega)
theorem goX_it {q b n : Nat} (hO : OK0 M n) (hq : q < n) (hb : b < gNo (M 177 q)) : goX (pA M E n) (itA M E e n) 0 (gsm M q + b) = goX (pA M E n) (dM (fv E M) 0 (gsm M q) q) (82 + ((mlI (fv E M) 0 q).length : Int)) b := by
  have hz : goX (pA M E n) (itA M E e n) 0 (gsm M q + b) = goX (pA M E n) (mlI (fv E M) 0 n) (0 + ((hdI e).length : Int)) (gsm M q + b - 0) := by
    unfold itA
    rw [goX_app, hdI_g.1, if_neg (Nat.not_lt_zero _)]
  have z := goX_ml (M := fv E M) (P := pA M E n) (q := q) (b := b) (A := 82) hb n hO hq
  rw [gsm_f] at z
  rw [hz, ← z, hdI_l, Nat.sub_zero]
  rfl
theorem J_step (hc : cd = 83 ∨ cd = 93) {n : Nat} {Q : Nat → Int} (hO : OK0 M n) (D : ∀ i, i < n → DO m cd M (cpC m cd p0 (i + 1)) (cq M 0 (i + 1)) i) (hP : ∀ q, q < n → ∀ i, i ∈ dM (fv E M) 0 (gsm M q) q → isG i → Pw m cd Q i.2.2 = pA M E n i.2.2) {q : Nat} (hq : q < n) : Jw m cd p0 82 Q (JE M E) n q = JE M (stE M e n E) q := by
  have ed := dC_dM (E := E) hc (hO q hq) (D q hq) (cq_fv (q + 1))
  have ec := clI_mlI (E := E) hc hO D q (by omega)
  unfold Jw
  rw [if_pos hq, ed, ec]
  obtain ⟨o1, o2, o3, o4, o5, o6⟩ := hO q hq
  have en : ngo (dM (fv E M) 0 (gsm M q) q) = gNo (M 177 q) := itO_g o1 o4
  have g2 : gNo (M 177 q) ≤ 2 := by
    unfold gNo
    split
    · exact Nat.le_refl _
    · split <;> decide
  have jb := JE_b (M := M) (E := E) (i := q)
  have jn := jN_b (P := Pw m cd Q) (dM (fv E M) 0 (gsm M q) q) (82 + ((mlI (fv E M) 0 q).length : Int)) 0 (JE M E q) (by rw [en]; omega) jb.1 jb.2
  have ez : ((0 : Nat) : Int) = 0 := rfl
  rw [ez] at jn
  have gx : ∀ b, goX (Pw m cd Q) (dM (fv E M) 0 (gsm M q) q) (82 + ((mlI (fv E M) 0 q).length : Int)) b = goX (pA M E n) (dM (fv E M) 0 (gsm M q) q) (82 + ((mlI (fv E M) 0 q).length : Int)) b := fun b => goX_c _ _ _ (hP q hq)
  have st : ∀ b, b < gNo (M 177 q) → (decide (stE M e n E (gsm M q + b) = 1)) = (decide (E (gsm M q + b) = 1) || goX (pA M E n) (dM (fv E M) 0 (gsm M q) q) (82 + ((mlI (fv E M) 0 q).length : Int)) b) := fun b hb => by
    unfold stE
    rw [goX_it hO hq hb]
    cases goX (pA M E n) (dM (fv E M) 0 (gsm M q) q) (82 + ((mlI (fv E M) 0 q).length : Int)) b with
    | true =>
      rw [if_pos rfl, Bool.or_true]
      rfl
    | false =>
      rw [if_neg (fun w => Bool.noConfusion w), Bool.or_false]
  refine fB_eq jn.1 JE_b ?_ ?_
  · have z := jn.2 0 (by omega)
    rw [ez, en, Nat.sub_zero, Nat.zero_add, gx] at z
    rw [z]
    by_cases h : 0 < gNo (M 177 q)
    · rw [decide_eq_true (show 0 ≤ 0 ∧ 0 < gNo (M 177 q) from ⟨Nat.le_refl _, h⟩), Bool.true_and, JE_0 h, JE_0 h]
      have s0 := st 0 h
      rw [Nat.add_zero] at s0
      exact s0.symm
    · rw [decide_eq_false (fun w : 0 ≤ 0 ∧ 0 < gNo (M 177 q) => h w.2), Bool.false_and, Bool.or_false, JE_0n h, JE_0n h]
  · have z := jn.2 1 (by omega)
    have e1 : ((1 : Nat) : Int) = 1 := rfl
    rw [e1, en, Nat.sub_zero, Nat.zero_add, gx] at z
    rw [z]
    by_cases h : M 177 q = 11
    · have g11 : gNo (M 177 q) = 2 := by rw [h]; rfl
      rw [decide_eq_true (show 0 ≤ 1 ∧ 1 < gNo (M 177 q) from ⟨by omega, by omega⟩), Bool.true_and, JE_1 h, JE_1 h]
      exact (st 1 (by omega)).symm
    · have g1 : gNo (M 177 q) ≤ 1 := by
        unfold gNo
        rw [if_neg h]
        split <;> decide
      rw [decide_eq_false (fun w : 0 ≤ 1 ∧ 1 < gNo (M 177 q) => by omega), Bool.false_and, Bool.or_false, JE_1n h, JE_1n h]
end Bts
