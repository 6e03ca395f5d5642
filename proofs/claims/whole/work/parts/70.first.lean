/-! THE MEMORY BEHIND THE CONSTRUCTORS, cell by cell -/
def cTf (a : Nat) : Nat := match og T2f (a - 50) with
  | some (_, _, c) => c
  | none => 0
def isA (a kd : Nat) : Bool := match og T2f (a - 50) with
  | some (k, _, _) => Nat.beq k kd
  | none => false
def zA (a : Nat) : Bool := match og T2f (a - 50) with
  | some (_, _, c) => Nat.beq c 0
  | none => false
theorem m0_A {a kd : Nat} (h50 : ¬ a < 50) (h : isA a kd = true) (k : Nat) : m0 a k = cg kd (cTf a) k := by
  show tM T2f a k = _
  unfold isA at h
  unfold cTf
  generalize e : og T2f (a - 50) = q at h ⊢
  cases q with
  | none => cases h
  | some q =>
    obtain ⟨k1, l1, c⟩ := q
    have e1 : k1 = kd := Nat.eq_of_beq_eq_true h
    subst e1
    exact (tk_v h50 e).2.2 k
theorem cg_0 (kd k : Nat) : cg kd 0 k = 0 := by
  unfold cg
  have e : pku (wd kd) 0 k = 0 := by
    show (0 >>> (wd kd * k)) % 2 ^ (wd kd) = 0
    rw [Nat.zero_shiftRight, Nat.zero_mod]
  rw [e]
  unfold pkd
  rw [bf_blt, if_pos (show 0 < Nat.pow 2 (wd kd - 1) from Nat.two_pow_pos _)]
  rfl
theorem m0_Z {a : Nat} (h50 : ¬ a < 50) (h : zA a = true) (k : Nat) : m0 a k = 0 := by
  show tM T2f a k = _
  unfold zA at h
  generalize e : og T2f (a - 50) = q at h
  cases q with
  | none => cases h
  | some q =>
    obtain ⟨k1, l1, c⟩ := q
    have e1 : c = 0 := Nat.eq_of_beq_eq_true h
    subst e1
    rw [(tk_v h50 e).2.2 k]
    exact cg_0 _ _
/-- cells that are empty -/
def zL : List Nat := [72, 77, 79, 80, 81, 82, 87, 88, 97, 98, 169, 180, 198, 206, 207, 208, 209, 216]
set_option maxRecDepth 1000000 in
theorem zL_ok : zL.all zA = true := by decide +kernel
theorem m0_z {a : Nat} (h : a ∈ zL) (h50 : ¬ a < 50) (k : Nat) : m0 a k = 0 := m0_Z h50 (List.all_eq_true.1 zL_ok a h) k
/-- fields -/
def fL : List (Nat × Nat × Int) := [(50, 7, 83), (50, 8, 93), (50, 9, 0), (51, 1, 0), (68, 7, 0), (68, 8, 0), (71, 3, 0), (71, 5, 0), (71, 6, 0), (73, 0, 4104), (73, 1, 90), (73, 6, 0), (78, 2, 0), (78, 3, 0), (78, 4, 0), (78, 5, 0), (78, 6, 0), (78, 8, 0), (78, 9, 0), (78, 11, 0), (78, 12, 0), (78, 13, 0), (83, 0, 0), (83, 5, 0), (83, 10, 0), (83, 11, 0), (83, 12, 0), (93, 12, 0), (158, 1, 0), (158, 11, 0), (158, 54, 0), (158, 85, 0), (158, 86, 4104), (158, 91, 90), (158, 95, 0), (158, 96, 0), (158, 97, 0), (158, 98, 0), (158, 99, 0), (158, 100, 0), (158, 101, 0), (158, 103, 0), (158, 104, 0), (158, 106, 0)]
set_option maxRecDepth 1000000 in
theorem fL_ok : (fL.all fun q => decide (m0 q.1 q.2.1 = q.2.2)) = true := by decide +kernel
theorem m0_f {a k : Nat} {v : Int} (h : (a, k, v) ∈ fL) : m0 a k = v := by
  have z := List.all_eq_true.1 fL_ok (a, k, v) h
  exact of_decide_eq_true z
/-- keys -/
def kyC (a : Nat) : Nat → Bool
  | 0 => true
  | n + 1 => decide (m0 a n = kyL.getD n 0) && kyC a n
theorem kyC_ok {a : Nat} : ∀ {n : Nat}, kyC a n = true → ∀ k, k < n → m0 a k = kyL.getD k 0
  | 0, _, k, h => absurd h (Nat.not_lt_zero k)
  | n + 1, h, k, hk => by
    have h' : (decide (m0 a n = kyL.getD n 0) && kyC a n) = true := h
    simp only [Bool.and_eq_true, decide_eq_true_eq] at h'
    rcases Nat.lt_succ_iff_lt_or_eq.mp hk with z | z
    · exact kyC_ok h'.2 k z
    · rw [z]; exact h'.1
set_option maxRecDepth 1000000 in
theorem ky_56 : kyC 56 13 = true := by decide +kernel
set_option maxRecDepth 1000000 in
theorem ky_164 : kyC 164 13 = true := by decide +kernel
/-- a check of all places below 2 ^ k, halved -/
def hlv (f : Nat → Bool) : Nat → Nat → Bool
  | 0, lo => f lo
  | k + 1, lo => hlv f k lo && hlv f k (Nat.add lo (Nat.pow 2 k))
theorem hlv_ok {f : Nat → Bool} : ∀ {k lo : Nat}, hlv f k lo = true → ∀ j, lo ≤ j → j < lo + 2 ^ k → f j = true
  | 0, lo, h, j, h1, h2 => by
    have e : j = lo := by
      have : (2 : Nat) ^ 0 = 1 := rfl
      omega
    rw [e]
    exact h
  | k + 1, lo, h, j, h1, h2 => by
    have h' : (hlv f k lo && hlv f k (lo + 2 ^ k)) = true := h
    simp only [Bool.and_eq_true] at h'
    have hp : (2 : Nat) ^ (k + 1) = 2 ^ k + 2 ^ k := by
      rw [Nat.pow_succ]
      omega
    by_cases c : j < lo + 2 ^ k
    · exact hlv_ok h'.1 j h1 c
    · exact hlv_ok h'.2 j (by omega) (by omega)
/-- the net's arrays, place by place -/
def fN (j : Nat) : Bool := Nat.blt (pku 32 (cTf 74) j) 4104 && (Nat.blt (pku 32 (cTf 75) j) 4104 && (Nat.blt (pku 32 (cTf 201) j) 4104 && (Nat.blt (pku 32 (cTf 202) j) 4104 && ((Nat.blt j 212 || (Nat.ble 4104 j || (Nat.blt (pku 32 (cTf 74) j) j && (Nat.blt (pku 32 (cTf 75) j) j && (Nat.beq (pku 32 (cTf 74) j) (pku 32 (cTf 201) j) && Nat.beq (pku 32 (cTf 75) j) (pku 32 (cTf 202) j)))))) && (Nat.blt j 2 || (Nat.ble 196 j || Nat.beq (pku 32 (cTf 74) j) (pku 32 (cTf 204) j)))))))
set_option maxRecDepth 1000000 in
theorem net_1 : hlv fN 13 0 = true := by decide +kernel
def hiZ (a : Nat) : Bool := Nat.beq (Nat.shiftRight (cTf a) 262144) 0
set_option maxRecDepth 1000000 in
theorem net_2 : (hiZ 74 && (hiZ 75 && (hiZ 201 && hiZ 202))) = true := by decide +kernel
set_option maxRecDepth 1000000 in
theorem net_3 : (isA 74 0 && (isA 75 0 && (isA 201 0 && (isA 202 0 && isA 204 0)))) = true := by decide +kernel
theorem pk_hi {a j : Nat} (h : hiZ a = true) (hj : 8192 ≤ j) : pku 32 (cTf a) j = 0 := by
  have z : (cTf a) >>> 262144 = 0 := Nat.eq_of_beq_eq_true h
  show ((cTf a) >>> (32 * j)) % 2 ^ 32 = 0
  rw [show 32 * j = 262144 + (32 * j - 262144) by omega, Nat.shiftRight_add, z, Nat.zero_shiftRight, Nat.zero_mod]
theorem net_b (j : Nat) : pku 32 (cTf 74) j < 4104 ∧ pku 32 (cTf 75) j < 4104 ∧ pku 32 (cTf 201) j < 4104 ∧ pku 32 (cTf 202) j < 4104 := by
  by_cases h : j < 8192
  · have z := hlv_ok net_1 j (Nat.zero_le _) (by omega)
    unfold fN at z
    simp only [Bool.and_eq_true] at z
    exact ⟨Nat.le_of_ble_eq_true z.1, Nat.le_of_ble_eq_true z.2.1, Nat.le_of_ble_eq_true z.2.2.1, Nat.le_of_ble_eq_true z.2.2.2.1⟩
  · have z := net_2
    simp only [Bool.and_eq_true] at z
    rw [pk_hi z.1 (by omega), pk_hi z.2.1 (by omega), pk_hi z.2.2.1 (by omega), pk_hi z.2.2.2 (by omega)]
    omega
theorem net_g {j : Nat} (h1 : 212 ≤ j) (h2 : j < 4104) : pku 32 (cTf 74) j < j ∧ pku 32 (cTf 75) j < j ∧ pku 32 (cTf 74) j = pku 32 (cTf 201) j ∧ pku 32 (cTf 75) j = pku 32 (cTf 202) j := by
  have z := hlv_ok net_1 j (Nat.zero_le _) (by omega)
  unfold fN at z
  simp only [Bool.and_eq_true, Bool.or_eq_true] at z
  rcases z.2.2.2.2.1 with w | w | w
  · exact absurd (Nat.le_of_ble_eq_true w) (by omega)
  · exact absurd (Nat.le_of_ble_eq_true w) (by omega)
  · exact ⟨Nat.le_of_ble_eq_true w.1, Nat.le_of_ble_eq_true w.2.1, Nat.eq_of_beq_eq_true w.2.2.1, Nat.eq_of_beq_eq_true w.2.2.2⟩
theorem net_f {j : Nat} (h1 : 2 ≤ j) (h2 : j < 196) : pku 32 (cTf 74) j = pku 32 (cTf 204) j := by
  have z := hlv_ok net_1 j (Nat.zero_le _) (by omega)
  unfold fN at z
  simp only [Bool.and_eq_true, Bool.or_eq_true] at z
  rcases z.2.2.2.2.2 with w | w | w
  · exact absurd (Nat.le_of_ble_eq_true w) (by omega)
  · exact absurd (Nat.le_of_ble_eq_true w) (by omega)
  · exact Nat.eq_of_beq_eq_true w
theorem net_m (j : Nat) : m0 74 j = (pku 32 (cTf 74) j : Int) ∧ m0 75 j = (pku 32 (cTf 75) j : Int) ∧ m0 201 j = (pku 32 (cTf 201) j : Int) ∧ m0 202 j = (pku 32 (cTf 202) j : Int) := by
  have z := net_3
  simp only [Bool.and_eq_true] at z
  obtain ⟨b1, b2, b3, b4⟩ := net_b j
  refine ⟨?_, ?_, ?_, ?_⟩
  · rw [m0_A (by omega) z.1]; exact cg_r rfl (by omega)
  · rw [m0_A (by omega) z.2.1]; exact cg_r rfl (by omega)
  · rw [m0_A (by omega) z.2.2.1]; exact cg_r rfl (by omega)
  · rw [m0_A (by omega) z.2.2.2.1]; exact cg_r rfl (by omega)
theorem net_w {j : Nat} (h1 : 2 ≤ j) (h2 : j < 196) : m0 204 j = m0 74 j := by
  have z := net_3
  simp only [Bool.and_eq_true] at z
  rw [m0_A (by omega) z.1, m0_A (by omega) z.2.2.2.2]
  unfold cg
  rw [show wd 0 = 32 from rfl, net_f h1 h2]
