/-! THE START: what the constructors leave -/
def T1x : tT := [rw_0, rw_1, rw_2, rw_3, rw_4, rw_5, rw_6]
def T2f : tT := [rw_0, rw_1, rw_2, rw_3, rw_4, rw_5, rw_39, rw_8, rw_9, rw_40, rw_11, rw_12, rw_22, rw_26, rw_30, rw_31, rw_35, rw_41]
def eqOT (a : Option tT) (b : tT) : Bool := match a with
  | some t => eqT t b
  | none => false
theorem eqOT_ok {a : Option tT} {b : tT} (h : eqOT a b = true) : a = some b := by
  unfold eqOT at h
  split at h
  · rw [eqT_ok h]
  · cases h
set_option maxRecDepth 1000000 in
theorem new_2 : eqOT (onew T1 108 (21, 0, dfN 21)) T1x = true := by decide +kernel
theorem q10_call {c : Nat} {fm : tC} {g n n2 : Nat} {Lo : xL} {T T' T2 : tT} (h : onew T (n - 50) (10 + c, 0, dfN (10 + c)) = some T') (hm : fm [(n : Int)] (n + 1) T' = some ([], n2, T2)) : q10 c fm q30 g (Lo, n, T) = some (0, [(n : Int)], (Lo, n2, T2)) := by
  show tnew n T (10 + c) 0 _ = _
  unfold tnew
  rw [h]
  show (match fm [(n : Int)] (n + 1) T' with | some ([], n, T) => _ | _ => none) = _
  rw [hm]
theorem q32_call {j t : Nat} {fb : tF} {g n n2 : Nat} {Lo L2 : xL} {T T2 : tT} {x : Int} (h : fb 0 (Lo, n, T) = some (0, [x], (Lo, n2, T2))) (hl : j + t % 2 < Lo.length) (h2 : lset Lo j t x = L2) : q32 j t fb g (Lo, n, T) = some (0, [], (L2, n2, T2)) := by
  show tb (fb 0 (Lo, n, T)) _ = _
  rw [h, ← h2]
  exact if_pos hl
theorem rs2_ok : q32 2 2 (q10 11 cm_249 q30) 0 ([(2, 0), (2, 50), (9, 0), (9, 0)], 158, T1) = some (0, [], ([(2, 0), (2, 50), (2, 158), (9, 0)], 331, T2f)) :=
  q32_call (q10_call (n := 158) (T' := T1x) (eqOT_ok new_2) rm_b) (by decide) (by decide)
theorem Rh_00 (L : Nat) (xs : Nat → Int32) : Rh L xs (h00 L xs) 50 [] := by
  refine ⟨rfl, by decide, fun a h1 h2 => ⟨?_, ?_, fun k => ?_⟩, ⟨rfl, rfl, fun k => rfl⟩, fun a _ => ⟨rfl, rfl⟩⟩
  · show stK0 a = tK [] a
    unfold tK
    rw [bf_blt, bq, if_pos h1, if_neg h2]
  · show stL0 L a = tL [] a
    unfold tL
    rw [bf_blt, bq, if_pos h1, if_neg h2]
    unfold stL0
    rw [if_neg h2, if_neg h2]
  · show stM0 xs a k = tM [] a k
    unfold tM
    rw [bf_blt, if_pos h1]
    unfold stM0
    rw [if_neg h2, if_neg h2]
def cs2 : xT := nd 32 10 xz (nd 10 11249 xz (nd 57 0 xz xz))
theorem ctors (L : Nat) (xs : Nat → Int32) {d : Nat} (hd : 8 ≤ d) : ∃ h1 h2, Ev FF d cs1 0 ([(2, 0), (9, 0), (9, 0), (9, 0)], h00 L xs) = some (0, [], ([(2, 0), (2, 50), (9, 0), (9, 0)], h1)) ∧ Ev FF d cs2 0 ([(2, 0), (2, 50), (9, 0), (9, 0)], h1) = some (0, [], ([(2, 0), (2, 50), (2, 158), (9, 0)], h2)) ∧ Rh L xs h2 331 T2f := by
  have E1 : EF L xs d FF cs1 (q32 1 2 (q10 10 cm_178 q30)) := s_32 (i := 6) (s_10 (i := 10178) (sm_178 d hd) s_57)
  have E2 : EF L xs d FF cs2 (q32 2 2 (q10 11 cm_249 q30)) := s_32 (i := 10) (s_10 (i := 11249) (sm_249 d hd) s_57)
  obtain ⟨s1, a1, a2, a3⟩ := E1 0 ([(2, 0), (9, 0), (9, 0), (9, 0)], h00 L xs) ([(2, 0), (9, 0), (9, 0), (9, 0)], 50, []) ⟨rfl, Rh_00 L xs⟩ _ _ _ (eqR_ok run_1)
  obtain ⟨l1, h1⟩ := s1
  have a2' : l1 = [(2, 0), (2, 50), (9, 0), (9, 0)] := a2
  subst a2'
  obtain ⟨s2, b1, b2, b3⟩ := E2 0 ([(2, 0), (2, 50), (9, 0), (9, 0)], h1) ([(2, 0), (2, 50), (9, 0), (9, 0)], 158, T1) ⟨rfl, a3⟩ _ _ _ rs2_ok
  obtain ⟨l2, h2⟩ := s2
  have b2' : l2 = [(2, 0), (2, 50), (2, 158), (9, 0)] := b2
  subst b2'
  exact ⟨h1, h2, a1, b1, b3⟩
/-- the memory behind the constructors -/
def m0 : Mem := tM T2f
def okKL (n : Nat) : Bool := Nat.beq (tK T2f (50 + n)) (kdL.getD n 0) && Nat.beq (tL T2f (50 + n)) (lnL.getD n 0)
def okKs : Nat → Bool
  | 0 => true
  | n + 1 => okKL n && okKs n
theorem okKs_ok : ∀ {n : Nat}, okKs n = true → ∀ k, k < n → okKL k = true
  | 0, _, k, h => absurd h (Nat.not_lt_zero k)
  | n + 1, h, k, hk => by
    have h' : (okKL n && okKs n) = true := h
    simp only [Bool.and_eq_true] at h'
    rcases Nat.lt_succ_iff_lt_or_eq.mp hk with z | z
    · exact okKs_ok h'.2 k z
    · rw [z]; exact h'.1
set_option maxRecDepth 1000000 in
theorem okK : okKs 281 = true := by decide +kernel
def okCf (a : Nat) : Nat → List Int → Bool
  | _, [] => true
  | k, v :: r => (decide (v = -1) || decide (m0 a k = v)) && okCf a (k + 1) r
theorem okCf_ok {a : Nat} : ∀ {l : List Int} {j : Nat}, okCf a j l = true → ∀ k, lk l k ≠ -1 → m0 a (j + k) = lk l k
  | [], _, _, k, h => absurd rfl h
  | v :: r, j, h, k, hk => by
    have h' : ((decide (v = -1) || decide (m0 a j = v)) && okCf a (j + 1) r) = true := h
    simp only [Bool.and_eq_true, Bool.or_eq_true, decide_eq_true_eq] at h'
    cases k with
    | zero =>
      have : lk (v :: r) 0 = v := rfl
      rw [this] at hk ⊢
      rcases h'.1 with z | z
      · exact absurd z hk
      · exact z
    | succ k =>
      have e : lk (v :: r) (k + 1) = lk r k := rfl
      rw [e] at hk ⊢
      rw [← okCf_ok h'.2 k hk, show j + 1 + k = j + (k + 1) by omega]
set_option maxRecDepth 1000000 in
theorem cf_all : (okCf 50 0 (cfL 50) && okCf 51 0 (cfL 51) && okCf 57 0 (cfL 57) && okCf 67 0 (cfL 67) && okCf 68 0 (cfL 68) && okCf 71 0 (cfL 71) && okCf 73 0 (cfL 73) && okCf 78 0 (cfL 78) && okCf 83 0 (cfL 83) && okCf 93 0 (cfL 93) && okCf 158 0 (cfL 158)) = true := by decide +kernel
theorem cf_one (a : Nat) (k : Nat) (h : lk (cfL a) k ≠ -1) : m0 a k = lk (cfL a) k := by
  have H := cf_all
  simp only [Bool.and_eq_true] at H
  obtain ⟨⟨⟨⟨⟨⟨⟨⟨⟨⟨h1, h2⟩, h3⟩, h4⟩, h5⟩, h6⟩, h7⟩, h8⟩, h9⟩, h10⟩, h11⟩ := H
  have K : ∀ {b : Nat}, okCf b 0 (cfL b) = true → a = b → m0 a k = lk (cfL a) k := fun {b} hb e => by
    subst e
    have := okCf_ok hb k h
    rwa [Nat.zero_add] at this
  by_cases e1 : a = 50
  · exact K h1 e1
  by_cases e2 : a = 51
  · exact K h2 e2
  by_cases e3 : a = 57
  · exact K h3 e3
  by_cases e4 : a = 67
  · exact K h4 e4
  by_cases e5 : a = 68
  · exact K h5 e5
  by_cases e6 : a = 71
  · exact K h6 e6
  by_cases e7 : a = 73
  · exact K h7 e7
  by_cases e8 : a = 78
  · exact K h8 e8
  by_cases e9 : a = 83
  · exact K h9 e9
  by_cases e10 : a = 93
  · exact K h10 e10
  by_cases e11 : a = 158
  · exact K h11 e11
  exfalso
  apply h
  have : cfL a = [] := by
    unfold cfL
    split <;> first | rfl | omega
  rw [this]
  rfl
theorem heap_0 {L : Nat} {xs : Nat → Int32} {h : xH} (R : Rh L xs h 331 T2f) : ∃ m, h = Hp L xs m ∧ ∀ a k, 50 ≤ a → a < 331 → m a k = m0 a k := by
  obtain ⟨n, K, G, M⟩ := h
  obtain ⟨r1, -, r3, ⟨r4, r5, r6⟩, r7⟩ := R
  have r1' : n = 331 := r1
  subst r1'
  have eK : K = KK := by
    funext a
    unfold KK
    by_cases h1 : a < 331
    · rw [if_pos h1]
      by_cases h2 : a < 50
      · rw [if_pos h2]
        by_cases h3 : a = 0
        · subst h3; exact r4
        · have := (r3 a h1 h3).1
          rw [show K a = _ from this]
          unfold tK
          rw [bf_blt, bq, if_pos h2, if_neg h3]
      · rw [if_neg h2]
        have z := okKs_ok okK (a - 50) (by omega)
        unfold okKL at z
        simp only [Bool.and_eq_true] at z
        rw [show K a = _ from (r3 a h1 (by omega)).1, ← Nat.eq_of_beq_eq_true z.1, show 50 + (a - 50) = a by omega]
    · rw [if_neg h1]
      exact (r7 a (by omega)).1
  have eG : G = LL L := by
    funext a
    unfold LL
    by_cases h1 : a < 331
    · rw [if_pos h1]
      by_cases h2 : a < 50
      · rw [if_pos h2]
        by_cases h3 : a = 0
        · subst h3; exact r5
        · have := (r3 a h1 h3).2.1
          rw [show G a = _ from this]
          unfold tL
          rw [bf_blt, bq, if_pos h2, if_neg h3]
          unfold stL0
          rw [if_neg h3, if_neg h3]
      · rw [if_neg h2]
        have z := okKs_ok okK (a - 50) (by omega)
        unfold okKL at z
        simp only [Bool.and_eq_true] at z
        rw [show G a = _ from (r3 a h1 (by omega)).2.1, ← Nat.eq_of_beq_eq_true z.2, show 50 + (a - 50) = a by omega]
    · rw [if_neg h1]
      exact (r7 a (by omega)).2
  have eM : M = ov xs M := by
    funext a k
    unfold ov
    by_cases h2 : a < 50
    · rw [if_pos h2]
      by_cases h3 : a = 0
      · subst h3
        exact r6 k
      · rw [show M a k = _ from (r3 a (by omega) h3).2.2 k]
        unfold tM
        rw [bf_blt, if_pos h2]
        unfold stM0
        rw [if_neg h3, if_neg h3]
    · rw [if_neg h2]
      by_cases h4 : lk (cfL a) k = -1
      · rw [if_pos h4]
      · rw [if_neg h4]
        by_cases h1 : a < 331
        · rw [show M a k = _ from (r3 a h1 (by omega)).2.2 k]
          exact cf_one a k h4
        · exfalso
          apply h4
          have : cfL a = [] := by
            unfold cfL
            split <;> first | rfl | omega
          rw [this]
          rfl
  refine ⟨M, ?_, fun a k h1 h2 => (r3 a h2 (by omega)).2.2 k⟩
  unfold Hp
  rw [eK, eG, ← eM]
