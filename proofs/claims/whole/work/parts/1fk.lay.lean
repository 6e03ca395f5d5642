/-! Layer.lay OF THE CLASS: two turns are one step of the model's flags -/
section Lyc
variable {F L d : Nat} {xs : Nat → Int32} {cd : Nat} {m M : Mem} {n : Nat} {mn e : Int}
theorem cpC_i {p p2 : Int} (h : m (cd + 1) 0 = 0) : ∀ i, cpC m cd p (i + 1) = cpC m cd p2 (i + 1)
  | 0 => by
    show (if m (cd + 1) 0 = 0 then PAc m cd (m (cd + 2) 0) else p) = if m (cd + 1) 0 = 0 then PAc m cd (m (cd + 2) 0) else p2
    rw [if_pos h, if_pos h]
  | i + 1 => by
    show (if m (cd + 1) (i + 1) = 0 then PAc m cd (m (cd + 2) (i + 1)) else cpC m cd p (i + 1)) = if m (cd + 1) (i + 1) = 0 then PAc m cd (m (cd + 2) (i + 1)) else cpC m cd p2 (i + 1)
    rw [cpC_i h i]
theorem clI_p {p p2 : Int} {J : Nat → Int} (h : m (cd + 1) 0 = 0) : ∀ i, clI m cd p J i = clI m cd p2 J i
  | 0 => rfl
  | i + 1 => by
    show clI m cd p J i ++ dC m cd p (J i) i = clI m cd p2 J i ++ dC m cd p2 (J i) i
    rw [clI_p h i]
    unfold dC
    rw [cpC_i (p2 := p2) h i]
theorem clI_J {p : Int} {J J2 : Nat → Int} (h : ∀ q, q < n → J q = J2 q) : ∀ i, i ≤ n → clI m cd p J i = clI m cd p J2 i
  | 0 => fun _ => rfl
  | i + 1 => fun hi => by
    show clI m cd p J i ++ dC m cd p (J i) i = clI m cd p J2 i ++ dC m cd p (J2 i) i
    rw [clI_J h i (by omega), h i (by omega)]
theorem Jw_e {p A : Int} {Q J J2 : Nat → Int} (h : ∀ q, q < n → J q = J2 q) {q : Nat} (hq : q < n) : Jw m cd p A Q J n q = Jw m cd p A Q J2 n q := by
  unfold Jw
  rw [if_pos hq, if_pos hq, h q hq, clI_J h q (by omega)]
theorem Pw_u (hc : cd = 83 ∨ cd = 93) {Q : Nat → Int} {w s : Int} : Pw (uv cd w s m) cd Q = Pw m cd Q := by
  funext x
  unfold Pw PLc
  rcases hc with rfl | rfl <;> rfl
theorem Jw_u (hc : cd = 83 ∨ cd = 93) {p A w s : Int} {Q J : Nat → Int} : Jw (uv cd w s m) cd p A Q J n = Jw m cd p A Q J n := by
  funext q
  unfold Jw
  rw [Pw_u hc, clI_u hc, dC_u hc]
theorem mem_ml {i : It} {q : Nat} (hO : OK0 M n) : ∀ k, k ≤ n → q < k → i ∈ dM M 0 (gsm M q) q → i ∈ mlI M 0 k
  | 0 => fun _ h => absurd h (Nat.not_lt_zero _)
  | k + 1 => fun hk hq hi => by
    show i ∈ mlI M 0 k ++ dM M 0 (ngo (mlI M 0 k)) k
    rw [List.mem_append, ngo_ml hO k (by omega)]
    by_cases c : q = k
    · subst c
      exact Or.inr hi
    · exact Or.inl (mem_ml hO k (by omega) (by omega) hi)
theorem cX_c {P P2 : Int → Int} {l : List It} {A : Int} (h : ∀ i, i ∈ l → isG i → P i.2.2 = P2 i.2.2) : cX P l A = cX P2 l A := by
  have z : (cX P l A = true ↔ cX P2 l A = true) := by
    rw [cX_go, cX_go]
    constructor
    · rintro ⟨g, a, b⟩
      exact ⟨g, a, by rw [← goX_c l A g h]; exact b⟩
    · rintro ⟨g, a, b⟩
      exact ⟨g, a, by rw [goX_c l A g h]; exact b⟩
  exact Bool.eq_iff_iff.mpr z
theorem chE_ml {E : Nat → Int} : chE M e n E = cX (pA M E n) (mlI (fv E M) 0 n) 82 := by
  unfold chE itA
  rw [cX_app, cX_0 hdI_g.1, hdI_l, Bool.false_or]
  rfl
theorem jN_r {P : Int → Int} {l : List It} {A : Int} {j : Int} (h : ngo l ≤ 2) (h0 : 0 ≤ j) (h4 : j < 4) : 0 ≤ jN P l A 0 j ∧ jN P l A 0 j < 4 := by
  have z := jN_b (P := P) l A 0 j (by omega) h0 h4
  exact z.1
/-- what must hold of the class and the model while both lay -/
def CLM (m : Mem) (cd : Nat) (M : Mem) (n : Nat) (mn e : Int) : Prop := LLy m cd n mn ∧ LM M e n ∧ m (cd + 1) 0 = 0 ∧ (∀ i, i < n → DO m cd M (cpC m cd 0 (i + 1)) (cq M 0 (i + 1)) i) ∧ ENc m cd mn = e
/-- what stands between the turns -/
def TB2 (S : lS) (Q : Nat → Int) (i5 p6 w3 sz : Int) : Prop := (∀ i, 0 ≤ S.2.2.2.1 i ∧ S.2.2.2.1 i < 4) ∧ (∀ k : Nat, 0 ≤ Q k ∧ Q k ≤ 1000000) ∧ (0 ≤ i5 ∧ i5 < 3000) ∧ (-1000000 ≤ p6 ∧ p6 ≤ 1000000) ∧ (w3 = 0 ∨ w3 = 1) ∧ (0 ≤ sz ∧ sz ≤ 1000000)
theorem D_all (K : CLM m cd M n mn e) {p : Int} : ∀ i, i < n → DO m cd M (cpC m cd p (i + 1)) (cq M 0 (i + 1)) i := fun i hi => by
  rw [cpC_i (p2 := 0) K.2.2.1 i]
  exact K.2.2.2.1 i hi
theorem cl_ml (K : CLM m cd M n mn e) {p : Int} {E J : Nat → Int} (hJ : ∀ i, i < n → J i = JE M E i) {i : Nat} (hi : i ≤ n) : clI m cd p J i = mlI (fv E M) 0 i := by
  rw [clI_J (n := n) hJ i hi]
  have hc : cd = 83 ∨ cd = 93 := (K.1.1 0 0 (Or.inl rfl) (Int.le_refl 0) (by decide)).1
  exact clI_mlI hc K.2.1.1 (D_all K) i hi
theorem T_two (hF : 100000 ≤ F) (K : CLM m cd M n mn e) {E : Nat → Int} {S : lS} {Q : Nat → Int} {i5 p6 w3 sz turn : Int} {y : Nat × Int} {N : Nat} (hE : b01 E) (hB : TB2 S Q i5 p6 w3 sz) (hJE : ∀ i, i < n → S.2.2.2.1 i = JE M E i) (ht : 0 ≤ turn ∧ turn + 2 ≤ 12002) (ht2 : turn % 2 = 0) (hfit : 82 + ((mlI (fv E M) 0 n).length : Int) + m 57 8 ≤ 6000) : ∃ (g : Int) (J2 W Q2 : Nat → Int) (i6 p7 : Int), TB2 (82 + ((mlI (fv E M) 0 n).length : Int), g, 0, J2, W) Q2 i6 p7 1 (82 + ((mlI (fv E M) 0 n).length : Int)) ∧ (∀ i, i < n → J2 i = JE M (stE M e n E) i) ∧ (∀ k, k < n → Q2 k = 82 + ((mlI (fv E M) 0 k).length : Int)) ∧ WdOk (Pw (uv cd 1 (82 + ((mlI (fv E M) 0 n).length : Int)) m) cd Q2) (Nw (uv cd 1 (82 + ((mlI (fv E M) 0 n).length : Int)) m) cd Q2) W (itA M E e n) 0 ∧ LF F (d + 13) la_36_0 lb_36_0 lc_36_0 (N + 1 + 1) ([(2, 71), (2, (cd : Int)), (0, turn), y], Hp L xs (lyS S cd (qv cd Q i5 p6 (uv cd w3 sz m)))) = if chE M e n E = true then LF F (d + 13) la_36_0 lb_36_0 lc_36_0 N ([(2, 71), (2, (cd : Int)), (0, turn + 1 + 1), (0, (n : Int))], Hp L xs (lyS (82 + ((mlI (fv E M) 0 n).length : Int), g, 1, J2, W) cd (qv cd Q2 i6 p7 (uv cd 1 (82 + ((mlI (fv E M) 0 n).length : Int)) m)))) else some (3, [1], ([(2, 71), (2, (cd : Int)), (0, turn + 1), (0, (n : Int))], Hp L xs (lyS (82 + ((mlI (fv E M) 0 n).length : Int), g, 0, J2, W) cd (qv cd Q2 i6 p7 (uv cd 1 (82 + ((mlI (fv E M) 0 n).length : Int)) m))))) := by
  obtain ⟨b1, b2, b3, b4, b5, b6⟩ := hB
  have hML := K.2.1
  obtain ⟨hO, hn, hn3, h0, hX, hBd, hL⟩ := hML
  have KL := K.1
  have hc : cd = 83 ∨ cd = 93 := (KL.1 0 0 (Or.inl rfl) (Int.le_refl 0) (by decide)).1
  have ecl : ∀ p i, i ≤ n → clI m cd p S.2.2.2.1 i = mlI (fv E M) 0 i := fun p i hi => cl_ml K hJE hi
  have g57 : 0 ≤ m 57 8 := KL.2.2.2.2.2.2.2.1.1
  obtain ⟨g1, i6, hi6, he⟩ := T_even (F := F) (L := L) (d := d) (xs := xs) (y := y) (N := N + 1) hF KL ⟨ht.1, by omega⟩ ht2 b5 b6 b2 b3 b4 b1 (fun i hi => by rw [ecl _ i hi]; have := hBd E hE i hi; omega) (by rw [ecl _ n (Nat.le_refl _)]; exact hfit)
  rw [ecl _ n (Nat.le_refl _)] at he
  have hp7 := cpC_b (m := m) (cd := cd) (p0 := p6) (n := 0) KL.2.2.1 b4
  have hQ2 : ∀ k : Nat, k < n → pqC 82 m cd p6 S.2.2.2.1 Q n k = 82 + ((mlI (fv E M) 0 k).length : Int) := fun k hk => by
    unfold pqC
    rw [if_pos hk, ecl _ k (by omega)]
  have hQb : ∀ k : Nat, 0 ≤ pqC 82 m cd p6 S.2.2.2.1 Q n k ∧ pqC 82 m cd p6 S.2.2.2.1 Q n k ≤ 1000000 := fun k => by
    by_cases hk : k < n
    · rw [hQ2 k hk]
      have := hBd E hE k (by omega)
      omega
    · unfold pqC
      rw [if_neg hk]
      exact b2 k
  generalize hsz : 82 + ((mlI (fv E M) 0 n).length : Int) = sz2 at *
  generalize hQ2e : pqC 82 m cd p6 S.2.2.2.1 Q n = Q2 at *
  obtain ⟨g2, i7, W, hi7, wok, wfr, ho⟩ := T_odd (F := F) (L := L) (d := d) (xs := xs) (S := (sz2, g1, 0, S.2.2.2.1, S.2.2.2.2)) (Q := Q2) (w3 := 0) (sz := sz2) (i5 := i6) (p6 := cpC m cd p6 n) (turn := turn + 1) (y := (0, (n : Int))) (N := N) hF KL ⟨by omega, by omega⟩ (by omega) (Or.inl rfl) (by show 82 + ((clI m cd (cpC m cd p6 n) S.2.2.2.1 n).length : Int) = sz2; rw [ecl _ n (Nat.le_refl _)]; exact hsz) hQb (fun k hk => by show Q2 k = 82 + ((clI m cd (cpC m cd p6 n) S.2.2.2.1 k).length : Int); rw [ecl _ k (by omega)]; exact hQ2 k hk) hi6 (hp7 n) b1 hfit
  simp only at wok wfr ho
  rw [ecl _ n (Nat.le_refl _)] at wok ho
  rw [K.2.2.2.2] at wok
  have hPA : ∀ i, i ∈ itA M E e n → isG i → Pw m cd Q2 i.2.2 = pA M E n i.2.2 := fun i hi hg => by
    obtain ⟨u, v⟩ := hL E hE i hi hg
    have hn0 : m cd 0 = (n : Int) := by
      have z := (KL.1 0 0 (Or.inl rfl) (Int.le_refl 0) (by decide)).2.1
      rcases hc with rfl | rfl <;> exact z
    have e1 : Pw m cd Q2 i.2.2 = if i.2.2 < 0 ∨ m cd 0 ≤ i.2.2 then 0 else Q2 i.2.2.toNat := by
      unfold Pw PLc
      rcases hc with rfl | rfl <;> rfl
    rw [e1, if_neg (by rw [hn0]; omega), hQ2 _ (by omega)]
    unfold pA
    rw [if_pos (by omega)]
  have hch : cX (Pw (uv cd 1 sz2 m) cd Q2) (mlI (fv E M) 0 n) 82 = chE M e n E := by
    rw [chE_ml, Pw_u hc]
    exact cX_c (fun i hi hg => hPA i (by unfold itA; exact List.mem_append_right _ hi) hg)
  rw [hch] at ho
  have hJ2 : ∀ i, i < n → Jw (uv cd 1 sz2 m) cd (cpC m cd p6 n) 82 Q2 S.2.2.2.1 n i = JE M (stE M e n E) i := fun i hi => by
    rw [Jw_u hc, Jw_e hJE hi]
    exact J_step hc hO (D_all K) (fun q hq i hi hg => hPA i (by
      unfold itA
      refine List.mem_append_right _ (mem_ml (M := fv E M) hO n (Nat.le_refl _) hq ?_)
      rw [gsm_f]
      exact hi) hg) hi
  have hJb : ∀ i, 0 ≤ Jw (uv cd 1 sz2 m) cd (cpC m cd p6 n) 82 Q2 S.2.2.2.1 n i ∧ Jw (uv cd 1 sz2 m) cd (cpC m cd p6 n) 82 Q2 S.2.2.2.1 n i < 4 := fun i => by
    by_cases hi : i < n
    · rw [hJ2 i hi]
      exact JE_b
    · unfold Jw
      rw [if_neg hi]
      exact b1 i
  refine ⟨g2, Jw (uv cd 1 sz2 m) cd (cpC m cd p6 n) 82 Q2 S.2.2.2.1 n, W, Q2, i7, cpC m cd (cpC m cd p6 n) n, ⟨hJb, hQb, hi7, cpC_b (m := m) (cd := cd) (p0 := cpC m cd p6 n) (n := 0) KL.2.2.1 (hp7 n) n, Or.inr rfl, by omega, by omega⟩, hJ2, hQ2, wok, ?_⟩
  rw [he]
  exact ho
/-- the class's loop of turns, whole -/
theorem L_36_0 (hF : 100000 ≤ F) (K : CLM m cd M n mn e) : ∀ (k : Nat) (E : Nat → Int) (S : lS) (Q : Nat → Int) (i5 p6 w3 sz turn : Int) (y : Nat × Int) (N : Nat), zc E (gsm M n) ≤ k → b01 E → TB2 S Q i5 p6 w3 sz → (∀ i, i < n → S.2.2.2.1 i = JE M E i) → (0 ≤ turn ∧ turn + 2 * (k : Int) + 2 ≤ 12002) → turn % 2 = 0 → 2 * k + 2 ≤ N → ∃ (S2 : lS) (Q2 : Nat → Int) (i6 p7 w4 sz2 : Int) (Lo : xL), TB2 S2 Q2 i6 p7 w4 sz2 ∧ LF F (d + 13) la_36_0 lb_36_0 lc_36_0 N ([(2, 71), (2, (cd : Int)), (0, turn), y], Hp L xs (lyS S cd (qv cd Q i5 p6 (uv cd w3 sz m)))) = some (3, [if 82 + ((mlI (fv (itr M e n (k + 1) E) M) 0 n).length : Int) + m 57 8 ≤ 6000 then 1 else 0], (Lo, Hp L xs (lyS S2 cd (qv cd Q2 i6 p7 (uv cd w4 sz2 m))))) ∧ (82 + ((mlI (fv (itr M e n (k + 1) E) M) 0 n).length : Int) + m 57 8 ≤ 6000 → sz2 = 82 + ((mlI (fv (itr M e n (k + 1) E) M) 0 n).length : Int) ∧ (∀ q, q < n → Q2 q = 82 + ((mlI (fv (itr M e n (k + 1) E) M) 0 q).length : Int)) ∧ WdOk (Pw (uv cd 1 sz2 m) cd Q2) (Nw (uv cd 1 sz2 m) cd Q2) S2.2.2.2.2 (itA M (itr M e n (k + 1) E) e n) 0) := by
  obtain ⟨hO, hn, hn3, h0, hX, hBd, hL⟩ := K.2.1
  have KL := K.1
  have g57 := KL.2.2.2.2.2.2.2.1
  -- too many words already
  have over : ∀ (k : Nat) (E : Nat → Int) (S : lS) (Q : Nat → Int) (i5 p6 w3 sz turn : Int) (y : Nat × Int) (N : Nat), b01 E → TB2 S Q i5 p6 w3 sz → (∀ i, i < n → S.2.2.2.1 i = JE M E i) → (0 ≤ turn ∧ turn < 12002) → turn % 2 = 0 → 6000 < 82 + ((mlI (fv E M) 0 n).length : Int) + m 57 8 → ∃ (S2 : lS) (Q2 : Nat → Int) (i6 p7 w4 sz2 : Int) (Lo : xL), TB2 S2 Q2 i6 p7 w4 sz2 ∧ LF F (d + 13) la_36_0 lb_36_0 lc_36_0 (N + 1) ([(2, 71), (2, (cd : Int)), (0, turn), y], Hp L xs (lyS S cd (qv cd Q i5 p6 (uv cd w3 sz m)))) = some (3, [if 82 + ((mlI (fv (itr M e n (k + 1) E) M) 0 n).length : Int) + m 57 8 ≤ 6000 then 1 else 0], (Lo, Hp L xs (lyS S2 cd (qv cd Q2 i6 p7 (uv cd w4 sz2 m))))) ∧ (82 + ((mlI (fv (itr M e n (k + 1) E) M) 0 n).length : Int) + m 57 8 ≤ 6000 → sz2 = 82 + ((mlI (fv (itr M e n (k + 1) E) M) 0 n).length : Int) ∧ (∀ q, q < n → Q2 q = 82 + ((mlI (fv (itr M e n (k + 1) E) M) 0 q).length : Int)) ∧ WdOk (Pw (uv cd 1 sz2 m) cd Q2) (Nw (uv cd 1 sz2 m) cd Q2) S2.2.2.2.2 (itA M (itr M e n (k + 1) E) e n) 0) := fun k E S Q i5 p6 w3 sz turn y N hE hB hJE ht ht2 hov => by
    obtain ⟨b1, b2, b3, b4, b5, b6⟩ := hB
    have hg := ml_grow (M := M) (E := E) (E2 := itr M e n (k + 1) E) hO (itr_grow (k + 1) E) n (Nat.le_refl _)
    have hno : ¬ (82 + ((mlI (fv (itr M e n (k + 1) E) M) 0 n).length : Int) + m 57 8 ≤ 6000) := by omega
    have ecl : ∀ p i, i ≤ n → clI m cd p S.2.2.2.1 i = mlI (fv E M) 0 i := fun p i hi => cl_ml K hJE hi
    obtain ⟨g1, i6, hi6, he⟩ := T_over (F := F) (L := L) (d := d) (xs := xs) (y := y) (N := N) hF KL ht ht2 b5 b6 b2 b3 b4 b1 g57.2 (fun i hi => by rw [ecl _ i hi]; have := hBd E hE i hi; omega) (by rw [ecl _ n (Nat.le_refl _)]; exact hov)
    have hQb : ∀ k : Nat, 0 ≤ pqC 82 m cd p6 S.2.2.2.1 Q n k ∧ pqC 82 m cd p6 S.2.2.2.1 Q n k ≤ 1000000 := fun k => by
      unfold pqC
      by_cases hk : k < n
      · rw [if_pos hk, ecl _ k (by omega)]
        have := hBd E hE k (by omega)
        omega
      · rw [if_neg hk]
        exact b2 k
    refine ⟨(82 + ((clI m cd p6 S.2.2.2.1 n).length : Int), g1, 0, S.2.2.2.1, S.2.2.2.2), pqC 82 m cd p6 S.2.2.2.1 Q n, i6, cpC m cd p6 n, 0, sz, [(2, 71), (2, (cd : Int)), (0, turn), (0, (n : Int))], ⟨b1, hQb, hi6, cpC_b (m := m) (cd := cd) (p0 := p6) (n := 0) KL.2.2.1 b4 n, Or.inl rfl, b6⟩, ?_, fun w => absurd w hno⟩
    rw [if_neg hno]
    exact he
  intro k
  induction k with
  | zero =>
    intro E S Q i5 p6 w3 sz turn y N hz hE hB hJE ht ht2 hN
    obtain ⟨N, rfl⟩ : ∃ n', N = n' + 1 + 1 := ⟨N - 2, by omega⟩
    have hch : chE M e n E = false := by
      cases h : chE M e n E with
      | false => rfl
      | true =>
        have := st_zc hO hE (hL E hE) h
        omega
    have ei : itr M e n (0 + 1) E = E := by
      show (if chE M e n E = true then itr M e n 0 (stE M e n E) else E) = E
      rw [hch, if_neg (fun w => Bool.noConfusion w)]
    by_cases hfit : 82 + ((mlI (fv E M) 0 n).length : Int) + m 57 8 ≤ 6000
    · obtain ⟨g, J2, W, Q2, i6, p7, t1, t2, t3, t4, t5⟩ := T_two (F := F) (L := L) (d := d) (xs := xs) (y := y) (N := N) hF K hE hB hJE ⟨ht.1, by omega⟩ ht2 hfit
      rw [hch, if_neg (fun w => Bool.noConfusion w)] at t5
      rw [ei, if_pos hfit]
      exact ⟨_, Q2, i6, p7, 1, _, _, t1, t5, fun _ => ⟨rfl, t3, t4⟩⟩
    · exact over 0 E S Q i5 p6 w3 sz turn y (N + 1) hE hB hJE ⟨ht.1, by omega⟩ ht2 (by omega)
  | succ k ih =>
    intro E S Q i5 p6 w3 sz turn y N hz hE hB hJE ht ht2 hN
    obtain ⟨N, rfl⟩ : ∃ n', N = n' + 1 + 1 := ⟨N - 2, by omega⟩
    by_cases hfit : 82 + ((mlI (fv E M) 0 n).length : Int) + m 57 8 ≤ 6000
    · obtain ⟨g, J2, W, Q2, i6, p7, t1, t2, t3, t4, t5⟩ := T_two (F := F) (L := L) (d := d) (xs := xs) (y := y) (N := N) hF K hE hB hJE ⟨ht.1, by omega⟩ ht2 hfit
      cases hch : chE M e n E with
      | false =>
        have ei : itr M e n (k + 1 + 1) E = E := by
          show (if chE M e n E = true then itr M e n (k + 1) (stE M e n E) else E) = E
          rw [hch, if_neg (fun w => Bool.noConfusion w)]
        rw [hch, if_neg (fun w => Bool.noConfusion w)] at t5
        rw [ei, if_pos hfit]
        exact ⟨_, Q2, i6, p7, 1, _, _, t1, t5, fun _ => ⟨rfl, t3, t4⟩⟩
      | true =>
        have ei : itr M e n (k + 1 + 1) E = itr M e n (k + 1) (stE M e n E) := by
          show (if chE M e n E = true then itr M e n (k + 1) (stE M e n E) else E) = _
          rw [hch, if_pos rfl]
        have hz2 := st_zc hO hE (hL E hE) hch
        rw [hch, if_pos rfl] at t5
        rw [ei, t5]
        exact ih (stE M e n E) (82 + ((mlI (fv E M) 0 n).length : Int), g, 1, J2, W) Q2 i6 p7 1 _ (turn + 1 + 1) (0, (n : Int)) N (by omega) (st_01 hE) ⟨t1.1, t1.2⟩ t2 ⟨by omega, by omega⟩ (by omega) (by omega)
    · exact over (k + 1) E S Q i5 p6 w3 sz turn y (N + 1) hE hB hJE ⟨ht.1, by omega⟩ ht2 (by omega)
end Lyc
