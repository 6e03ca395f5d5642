/-! THE LIBRARY: divide -/
section Div
variable {n : Nat} {W : Nat → Int} {ni : Int} {ip : Nat → Int} {tk ou : Int} {Y sn : Nat → Int}
theorem div_1 (hn : n ≤ 8192) (h82 : 82 ≤ n) (hL : LbW W) {a β q ρ c f r6 r7 : Int} (ha : 0 ≤ a ∧ a < 65536) (hr : 0 ≤ ρ ∧ ρ < 32768) (hq : 0 ≤ q ∧ q < 32768) : Rn n W ni ip (53, R8 a β q ρ c f r6 r7, Y, tk, ou, sn) (59, R8 ((2 * a) % 65536) β (2 * q) (2 * ρ + a / 32768) c f r6 r7, Y, tk, ou, sn) := by
  by_cases d : 32767 < a
  · rw [show a / 32768 = 1 from by omega]
    refine Rn_tr (T := (54, R8 a β q (2 * ρ) c f r6 r7, Y, tk, ou, sn)) (J_add (d := 3) (a := 3) (b := 3) hn ⟨by decide, by omega, by decide⟩ (by decide) (hL 45 (by decide)) (by show (ρ + ρ) % 65536 = _; omega) v8_3) ?_
    refine Rn_tr (T := (55, R8 a β (2 * q) (2 * ρ) c f r6 r7, Y, tk, ou, sn)) (J_add (d := 2) (a := 2) (b := 2) hn ⟨by decide, by omega, by decide⟩ (by decide) (hL 46 (by decide)) (by show (q + q) % 65536 = _; omega) v8_2) ?_
    refine Rn_tr (T := (57, R8 a β (2 * q) (2 * ρ) c f r6 r7, Y, tk, ou, sn)) (J_jn1 (d := 0) (x := 1) hn ⟨by decide, by omega, by decide⟩ (by decide) (by decide) (hL 47 (by decide)) d (by decide)) ?_
    refine Rn_tr (T := (58, R8 a β (2 * q) (2 * ρ + 1) c f r6 r7, Y, tk, ou, sn)) (J_addi (d := 3) (a := 3) (x := 1) hn ⟨by decide, by omega, by decide⟩ (by decide) (by decide) (hL 49 (by decide)) (by show (2 * ρ + 1) % 65536 = _; omega) v8_3) ?_
    exact J_add (d := 0) (a := 0) (b := 0) hn ⟨by decide, by omega, by decide⟩ (by decide) (hL 50 (by decide)) (by show (a + a) % 65536 = _; omega) v8_0
  · rw [show a / 32768 = 0 from by omega, Int.add_zero]
    refine Rn_tr (T := (54, R8 a β q (2 * ρ) c f r6 r7, Y, tk, ou, sn)) (J_add (d := 3) (a := 3) (b := 3) hn ⟨by decide, by omega, by decide⟩ (by decide) (hL 45 (by decide)) (by show (ρ + ρ) % 65536 = _; omega) v8_3) ?_
    refine Rn_tr (T := (55, R8 a β (2 * q) (2 * ρ) c f r6 r7, Y, tk, ou, sn)) (J_add (d := 2) (a := 2) (b := 2) hn ⟨by decide, by omega, by decide⟩ (by decide) (hL 46 (by decide)) (by show (q + q) % 65536 = _; omega) v8_2) ?_
    refine Rn_tr (T := (56, R8 a β (2 * q) (2 * ρ) c f r6 r7, Y, tk, ou, sn)) (J_jn0 (d := 0) (x := 1) hn ⟨by decide, by omega, by decide⟩ (by decide) (by decide) (hL 47 (by decide)) d (by decide)) ?_
    refine Rn_tr (T := (58, R8 a β (2 * q) (2 * ρ) c f r6 r7, Y, tk, ou, sn)) (J_ju (x := 1) hn ⟨by decide, by omega, by decide⟩ (by decide) (hL 48 (by decide)) (by decide)) ?_
    exact J_add (d := 0) (a := 0) (b := 0) hn ⟨by decide, by omega, by decide⟩ (by decide) (hL 50 (by decide)) (by show (a + a) % 65536 = _; omega) v8_0
theorem div_2 (hn : n ≤ 8192) (h82 : 82 ≤ n) (hL : LbW W) {a β q ρ c f r6 r7 : Int} (hb : 1 ≤ β ∧ β ≤ 32768) (hr : 0 ≤ ρ ∧ ρ < 2 * β) (hq : 0 ≤ q ∧ q < 65535) : ∃ g, Rn n W ni ip (59, R8 a β q ρ c f r6 r7, Y, tk, ou, sn) (66, R8 a β (if β ≤ ρ then q + 1 else q) (if β ≤ ρ then ρ - β else ρ) c g r6 r7, Y, tk, ou, sn) := by
  by_cases c1 : 32767 < ρ
  · refine ⟨f, ?_⟩
    rw [if_pos (by omega), if_pos (by omega)]
    refine Rn_tr (T := (64, R8 a β q ρ c f r6 r7, Y, tk, ou, sn)) (J_jn1 (d := 3) (x := 4) hn ⟨by decide, by omega, by decide⟩ (by decide) (by decide) (hL 51 (by decide)) c1 (by decide)) ?_
    refine Rn_tr (T := (65, R8 a β q (ρ - β) c f r6 r7, Y, tk, ou, sn)) (J_sub (d := 3) (a := 3) (b := 1) hn ⟨by decide, by omega, by decide⟩ (by decide) (hL 56 (by decide)) (by show (ρ - β) % 65536 = _; omega) v8_3) ?_
    exact J_addi (d := 2) (a := 2) (x := 1) hn ⟨by decide, by omega, by decide⟩ (by decide) (by decide) (hL 57 (by decide)) (by show (q + 1) % 65536 = _; omega) v8_2
  · by_cases c2 : 32767 < β
    · refine ⟨f, ?_⟩
      rw [if_neg (by omega), if_neg (by omega)]
      refine Rn_tr (T := (60, R8 a β q ρ c f r6 r7, Y, tk, ou, sn)) (J_jn0 (d := 3) (x := 4) hn ⟨by decide, by omega, by decide⟩ (by decide) (by decide) (hL 51 (by decide)) c1 (by decide)) ?_
      exact J_jn1 (d := 1) (x := 5) hn ⟨by decide, by omega, by decide⟩ (by decide) (by decide) (hL 52 (by decide)) c2 (by decide)
    · have e1 : sg ρ = ρ := by rw [sg_v (by omega), if_neg c1]
      have e2 : sg β = β := by rw [sg_v (by omega), if_neg c2]
      by_cases c3 : β ≤ ρ
      · refine ⟨0, ?_⟩
        rw [if_pos c3, if_pos c3]
        refine Rn_tr (T := (60, R8 a β q ρ c f r6 r7, Y, tk, ou, sn)) (J_jn0 (d := 3) (x := 4) hn ⟨by decide, by omega, by decide⟩ (by decide) (by decide) (hL 51 (by decide)) c1 (by decide)) ?_
        refine Rn_tr (T := (61, R8 a β q ρ c f r6 r7, Y, tk, ou, sn)) (J_jn0 (d := 1) (x := 5) hn ⟨by decide, by omega, by decide⟩ (by decide) (by decide) (hL 52 (by decide)) c2 (by decide)) ?_
        refine Rn_tr (T := (62, R8 a β q ρ c 0 r6 r7, Y, tk, ou, sn)) (J_less (d := 5) (a := 3) (b := 1) hn ⟨by decide, by omega, by decide⟩ (by decide) (hL 53 (by decide)) (by show (if sg ρ < sg β then 1 else 0) = (0 : Int); rw [e1, e2, if_neg (by omega)]) v8_5) ?_
        refine Rn_tr (T := (64, R8 a β q ρ c 0 r6 r7, Y, tk, ou, sn)) (J_jz1 (d := 5) (x := 1) hn ⟨by decide, by omega, by decide⟩ (by decide) (by decide) (hL 54 (by decide)) rfl (by decide)) ?_
        refine Rn_tr (T := (65, R8 a β q (ρ - β) c 0 r6 r7, Y, tk, ou, sn)) (J_sub (d := 3) (a := 3) (b := 1) hn ⟨by decide, by omega, by decide⟩ (by decide) (hL 56 (by decide)) (by show (ρ - β) % 65536 = _; omega) v8_3) ?_
        exact J_addi (d := 2) (a := 2) (x := 1) hn ⟨by decide, by omega, by decide⟩ (by decide) (by decide) (hL 57 (by decide)) (by show (q + 1) % 65536 = _; omega) v8_2
      · refine ⟨1, ?_⟩
        rw [if_neg c3, if_neg c3]
        refine Rn_tr (T := (60, R8 a β q ρ c f r6 r7, Y, tk, ou, sn)) (J_jn0 (d := 3) (x := 4) hn ⟨by decide, by omega, by decide⟩ (by decide) (by decide) (hL 51 (by decide)) c1 (by decide)) ?_
        refine Rn_tr (T := (61, R8 a β q ρ c f r6 r7, Y, tk, ou, sn)) (J_jn0 (d := 1) (x := 5) hn ⟨by decide, by omega, by decide⟩ (by decide) (by decide) (hL 52 (by decide)) c2 (by decide)) ?_
        refine Rn_tr (T := (62, R8 a β q ρ c 1 r6 r7, Y, tk, ou, sn)) (J_less (d := 5) (a := 3) (b := 1) hn ⟨by decide, by omega, by decide⟩ (by decide) (hL 53 (by decide)) (by show (if sg ρ < sg β then 1 else 0) = (1 : Int); rw [e1, e2, if_pos (by omega)]) v8_5) ?_
        refine Rn_tr (T := (63, R8 a β q ρ c 1 r6 r7, Y, tk, ou, sn)) (J_jz0 (d := 5) (x := 1) hn ⟨by decide, by omega, by decide⟩ (by decide) (by decide) (hL 54 (by decide)) (by show (1 : Int) ≠ 0; decide) (by decide)) ?_
        exact J_ju (x := 2) hn ⟨by decide, by omega, by decide⟩ (by decide) (hL 55 (by decide)) (by decide)
theorem div_l (hn : n ≤ 8192) (h82 : 82 ≤ n) (hL : LbW W) {β r6 r7 : Int} (hb : 1 ≤ β ∧ β ≤ 32768) : ∀ (c : Nat), c < 17 → ∀ (a q ρ f : Int), 0 ≤ a → a < 65536 → 0 ≤ ρ → ρ < β → 0 ≤ q → (q + 1) * ((2 ^ (c + 1) : Nat) : Int) ≤ 65536 → ∃ a' q' ρ' f', Rn n W ni ip (53, R8 a β q ρ ((c + 1 : Nat) : Int) f r6 r7, Y, tk, ou, sn) (69, R8 a' β q' ρ' 0 f' r6 r7, Y, tk, ou, sn) ∧ (0 ≤ ρ' ∧ ρ' < β) ∧ (0 ≤ q' ∧ q' < 65536) ∧ (0 ≤ a' ∧ a' < 65536) ∧ (q' * β + ρ') * 65536 + a' = ((q * β + ρ) * 65536 + a) * ((2 ^ (c + 1) : Nat) : Int) := by
  intro c
  induction c with
  | zero =>
    intro _ a q ρ f a0 a1 p0 p1 q0 hq
    rw [show ((2 ^ (0 + 1) : Nat) : Int) = 2 from rfl] at hq ⊢
    have s1 := div_1 (ni := ni) (ip := ip) (tk := tk) (ou := ou) (sn := sn) (Y := Y) (β := β) (c := ((0 + 1 : Nat) : Int)) (f := f) (r6 := r6) (r7 := r7) hn h82 hL ⟨a0, a1⟩ (ρ := ρ) ⟨p0, by omega⟩ (q := q) ⟨q0, by omega⟩
    obtain ⟨g, s2⟩ := div_2 (ni := ni) (ip := ip) (tk := tk) (ou := ou) (sn := sn) (Y := Y) (a := (2 * a) % 65536) (c := ((0 + 1 : Nat) : Int)) (f := f) (r6 := r6) (r7 := r7) hn h82 hL hb (ρ := 2 * ρ + a / 32768) (by omega) (q := 2 * q) (by omega)
    refine ⟨(2 * a) % 65536, if β ≤ 2 * ρ + a / 32768 then 2 * q + 1 else 2 * q, if β ≤ 2 * ρ + a / 32768 then 2 * ρ + a / 32768 - β else 2 * ρ + a / 32768, g, Rn_tr s1 (Rn_tr s2 ?_), ?_, ?_, by omega, ?_⟩
    · show Rn n W ni ip (66, R8 ((2 * a) % 65536) β (if β ≤ 2 * ρ + a / 32768 then 2 * q + 1 else 2 * q) (if β ≤ 2 * ρ + a / 32768 then 2 * ρ + a / 32768 - β else 2 * ρ + a / 32768) 1 g r6 r7, Y, tk, ou, sn) _
      refine Rn_tr (T := (67, R8 ((2 * a) % 65536) β (if β ≤ 2 * ρ + a / 32768 then 2 * q + 1 else 2 * q) (if β ≤ 2 * ρ + a / 32768 then 2 * ρ + a / 32768 - β else 2 * ρ + a / 32768) 0 g r6 r7, Y, tk, ou, sn)) (J_addi (d := 4) (a := 4) (x := -1) hn ⟨by decide, by omega, by decide⟩ (by decide) (by decide) (hL 58 (by decide)) (by show ((1 : Int) + -1) % 65536 = 0; decide) v8_4) ?_
      exact J_jz1 (d := 4) (x := 1) hn ⟨by decide, by omega, by decide⟩ (by decide) (by decide) (hL 59 (by decide)) rfl (by decide)
    · split <;> omega
    · split <;> omega
    · have em : (2 * q + 1) * β = 2 * (q * β) + β := by rw [Int.add_mul, Int.one_mul, Int.mul_assoc]
      have em2 : 2 * q * β = 2 * (q * β) := Int.mul_assoc _ _ _
      generalize q * β = Z at *
      split
      · rw [em]; omega
      · rw [em2]; omega
  | succ c ih =>
    intro hc a q ρ f a0 a1 p0 p1 q0 hq
    have hp : ((2 ^ (c + 1 + 1) : Nat) : Int) = 2 * ((2 ^ (c + 1) : Nat) : Int) := by rw [Nat.pow_succ 2 (c + 1)]; omega
    have hp1 : 2 ≤ ((2 ^ (c + 1) : Nat) : Int) := by
      have : 2 ^ 1 ≤ 2 ^ (c + 1) := Nat.pow_le_pow_right (by decide) (by omega)
      omega
    rw [hp] at hq ⊢
    generalize ((2 ^ (c + 1) : Nat) : Int) = K at *
    have hK : (q + 1) * 2 ≤ (q + 1) * K := Int.mul_le_mul_of_nonneg_left hp1 (by omega)
    have hq2 : (q + 1) * (2 * K) = 2 * ((q + 1) * K) := Int.mul_left_comm _ _ _
    have s1 := div_1 (ni := ni) (ip := ip) (tk := tk) (ou := ou) (sn := sn) (Y := Y) (β := β) (c := ((c + 1 + 1 : Nat) : Int)) (f := f) (r6 := r6) (r7 := r7) hn h82 hL ⟨a0, a1⟩ (ρ := ρ) ⟨p0, by omega⟩ (q := q) ⟨q0, by omega⟩
    obtain ⟨g, s2⟩ := div_2 (ni := ni) (ip := ip) (tk := tk) (ou := ou) (sn := sn) (Y := Y) (a := (2 * a) % 65536) (c := ((c + 1 + 1 : Nat) : Int)) (f := f) (r6 := r6) (r7 := r7) hn h82 hL hb (ρ := 2 * ρ + a / 32768) (by omega) (q := 2 * q) (by omega)
    have hq3 : ((if β ≤ 2 * ρ + a / 32768 then 2 * q + 1 else 2 * q) + 1) * K ≤ 65536 := by
      have w : ((if β ≤ 2 * ρ + a / 32768 then 2 * q + 1 else 2 * q) + 1) * K ≤ (2 * (q + 1)) * K := Int.mul_le_mul_of_nonneg_right (by split <;> omega) (by omega)
      rw [Int.mul_assoc] at w
      omega
    obtain ⟨a', q', ρ', f', w1, w2, w3, w4, w5⟩ := ih (by omega) ((2 * a) % 65536) (if β ≤ 2 * ρ + a / 32768 then 2 * q + 1 else 2 * q) (if β ≤ 2 * ρ + a / 32768 then 2 * ρ + a / 32768 - β else 2 * ρ + a / 32768) g (by omega) (by omega) (by split <;> omega) (by split <;> omega) (by split <;> omega) hq3
    refine ⟨a', q', ρ', f', Rn_tr s1 (Rn_tr s2 (Rn_tr ?_ w1)), w2, w3, w4, ?_⟩
    · show Rn n W ni ip (66, R8 ((2 * a) % 65536) β (if β ≤ 2 * ρ + a / 32768 then 2 * q + 1 else 2 * q) (if β ≤ 2 * ρ + a / 32768 then 2 * ρ + a / 32768 - β else 2 * ρ + a / 32768) ((c + 1 + 1 : Nat) : Int) g r6 r7, Y, tk, ou, sn) _
      refine Rn_tr (T := (67, R8 ((2 * a) % 65536) β (if β ≤ 2 * ρ + a / 32768 then 2 * q + 1 else 2 * q) (if β ≤ 2 * ρ + a / 32768 then 2 * ρ + a / 32768 - β else 2 * ρ + a / 32768) ((c + 1 : Nat) : Int) g r6 r7, Y, tk, ou, sn)) (J_addi (d := 4) (a := 4) (x := -1) hn ⟨by decide, by omega, by decide⟩ (by decide) (by decide) (hL 58 (by decide)) (by show (((c + 1 + 1 : Nat) : Int) + -1) % 65536 = _; omega) v8_4) ?_
      refine Rn_tr (T := (68, R8 ((2 * a) % 65536) β (if β ≤ 2 * ρ + a / 32768 then 2 * q + 1 else 2 * q) (if β ≤ 2 * ρ + a / 32768 then 2 * ρ + a / 32768 - β else 2 * ρ + a / 32768) ((c + 1 : Nat) : Int) g r6 r7, Y, tk, ou, sn)) (J_jz0 (d := 4) (x := 1) hn ⟨by decide, by omega, by decide⟩ (by decide) (by decide) (hL 59 (by decide)) (by show ((c + 1 : Nat) : Int) ≠ 0; omega) (by decide)) ?_
      exact J_ju (x := -16) hn ⟨by decide, by omega, by decide⟩ (by decide) (hL 60 (by decide)) (by decide)
    · rw [w5, ← Int.mul_assoc]
      refine congrArg (· * K) ?_
      have em : (2 * q + 1) * β = 2 * (q * β) + β := by rw [Int.add_mul, Int.one_mul, Int.mul_assoc]
      have em2 : 2 * q * β = 2 * (q * β) := Int.mul_assoc _ _ _
      generalize q * β = Z at *
      split
      · rw [em]; omega
      · rw [em2]; omega
theorem div_b (hn : n ≤ 8192) (h82 : 82 ≤ n) (hL : LbW W) {r0 r1 r2 r3 r4 r5 r6 r7 : Int} (hz : r1 ≠ 0) (h7 : (n : Int) ≤ r7 ∧ r7 + 2 < 8192) : Rn n W ni ip (38, R8 r0 r1 r2 r3 r4 r5 r6 r7, Y, tk, ou, sn) (44, R8 r0 r1 (ixor r0 r1) r3 r4 0 r6 r7, vput (vput (vput Y r7.toNat r5) (r7 + 1).toNat r0) (r7 + 2).toNat (ixor r0 r1), tk, ou, sn) := by
  refine Rn_tr (T := (39, R8 r0 r1 r2 r3 r4 r5 r6 r7, Y, tk, ou, sn)) (J_jz0 (d := 1) (x := 41) hn ⟨by decide, by omega, by decide⟩ (by decide) (by decide) (hL 30 (by decide)) hz (by decide)) ?_
  refine Rn_tr (T := (40, R8 r0 r1 r2 r3 r4 r5 r6 r7, (vput Y r7.toNat r5), tk, ou, sn)) (J_st (d := 5) (a := 7) (x := 0) (A := r7) hn ⟨by decide, by omega, by decide⟩ (by decide) (by decide) (hL 31 (by decide)) (by show r7 + 0 = r7; omega) (by omega) rfl) ?_
  refine Rn_tr (T := (41, R8 r0 r1 r2 r3 r4 r5 r6 r7, (vput (vput Y r7.toNat r5) (r7 + 1).toNat r0), tk, ou, sn)) (J_st (d := 0) (a := 7) (x := 1) (A := (r7 + 1)) hn ⟨by decide, by omega, by decide⟩ (by decide) (by decide) (hL 32 (by decide)) rfl (by omega) rfl) ?_
  refine Rn_tr (T := (42, R8 r0 r1 (ixor r0 r1) r3 r4 r5 r6 r7, (vput (vput Y r7.toNat r5) (r7 + 1).toNat r0), tk, ou, sn)) (J_xor (d := 2) (a := 0) (b := 1) hn ⟨by decide, by omega, by decide⟩ (by decide) (hL 33 (by decide)) rfl v8_2) ?_
  refine Rn_tr (T := (43, R8 r0 r1 (ixor r0 r1) r3 r4 r5 r6 r7, (vput (vput (vput Y r7.toNat r5) (r7 + 1).toNat r0) (r7 + 2).toNat (ixor r0 r1)), tk, ou, sn)) (J_st (d := 2) (a := 7) (x := 2) (A := (r7 + 2)) hn ⟨by decide, by omega, by decide⟩ (by decide) (by decide) (hL 34 (by decide)) rfl (by omega) rfl) ?_
  exact J_li (d := 5) (x := 0) hn ⟨by decide, by omega, by decide⟩ (by decide) (by decide) (hL 35 (by decide)) rfl v8_5
theorem div_c (hn : n ≤ 8192) (h82 : 82 ≤ n) (hL : LbW W) {r0 r1 r2 r3 r4 r6 r7 : Int} (h0 : 0 ≤ r0 ∧ r0 < 65536) : Rn n W ni ip (44, R8 r0 r1 r2 r3 r4 0 r6 r7, Y, tk, ou, sn) (47, R8 (if 32767 < r0 then 65536 - r0 else r0) r1 r2 r3 r4 0 r6 r7, Y, tk, ou, sn) := by
  by_cases c : 32767 < r0
  · rw [if_pos c]
    refine Rn_tr (T := (46, R8 r0 r1 r2 r3 r4 0 r6 r7, Y, tk, ou, sn)) (J_jn1 (d := 0) (x := 1) hn ⟨by decide, by omega, by decide⟩ (by decide) (by decide) (hL 36 (by decide)) c (by decide)) ?_
    exact J_sub (d := 0) (a := 5) (b := 0) hn ⟨by decide, by omega, by decide⟩ (by decide) (hL 38 (by decide)) (by show (0 - r0) % 65536 = _; omega) v8_0
  · rw [if_neg c]
    refine Rn_tr (T := (45, R8 r0 r1 r2 r3 r4 0 r6 r7, Y, tk, ou, sn)) (J_jn0 (d := 0) (x := 1) hn ⟨by decide, by omega, by decide⟩ (by decide) (by decide) (hL 36 (by decide)) c (by decide)) ?_
    exact J_ju (x := 1) hn ⟨by decide, by omega, by decide⟩ (by decide) (hL 37 (by decide)) (by decide)
theorem div_d (hn : n ≤ 8192) (h82 : 82 ≤ n) (hL : LbW W) {r0 r1 r2 r3 r4 r6 r7 : Int} (h1 : 0 ≤ r1 ∧ r1 < 65536) : Rn n W ni ip (47, R8 r0 r1 r2 r3 r4 0 r6 r7, Y, tk, ou, sn) (53, R8 r0 (if 32767 < r1 then 65536 - r1 else r1) 0 0 16 0 r6 r7, Y, tk, ou, sn) := by
  by_cases c : 32767 < r1
  · rw [if_pos c]
    refine Rn_tr (T := (49, R8 r0 r1 r2 r3 r4 0 r6 r7, Y, tk, ou, sn)) (J_jn1 (d := 1) (x := 1) hn ⟨by decide, by omega, by decide⟩ (by decide) (by decide) (hL 39 (by decide)) c (by decide)) ?_
    refine Rn_tr (T := (50, R8 r0 (65536 - r1) r2 r3 r4 0 r6 r7, Y, tk, ou, sn)) (J_sub (d := 1) (a := 5) (b := 1) hn ⟨by decide, by omega, by decide⟩ (by decide) (hL 41 (by decide)) (by show (0 - r1) % 65536 = _; omega) v8_1) ?_
    refine Rn_tr (T := (51, R8 r0 (65536 - r1) 0 r3 r4 0 r6 r7, Y, tk, ou, sn)) (J_li (d := 2) (x := 0) hn ⟨by decide, by omega, by decide⟩ (by decide) (by decide) (hL 42 (by decide)) rfl v8_2) ?_
    refine Rn_tr (T := (52, R8 r0 (65536 - r1) 0 0 r4 0 r6 r7, Y, tk, ou, sn)) (J_li (d := 3) (x := 0) hn ⟨by decide, by omega, by decide⟩ (by decide) (by decide) (hL 43 (by decide)) rfl v8_3) ?_
    exact J_li (d := 4) (x := 16) hn ⟨by decide, by omega, by decide⟩ (by decide) (by decide) (hL 44 (by decide)) rfl v8_4
  · rw [if_neg c]
    refine Rn_tr (T := (48, R8 r0 r1 r2 r3 r4 0 r6 r7, Y, tk, ou, sn)) (J_jn0 (d := 1) (x := 1) hn ⟨by decide, by omega, by decide⟩ (by decide) (by decide) (hL 39 (by decide)) c (by decide)) ?_
    refine Rn_tr (T := (50, R8 r0 r1 r2 r3 r4 0 r6 r7, Y, tk, ou, sn)) (J_ju (x := 1) hn ⟨by decide, by omega, by decide⟩ (by decide) (hL 40 (by decide)) (by decide)) ?_
    refine Rn_tr (T := (51, R8 r0 r1 0 r3 r4 0 r6 r7, Y, tk, ou, sn)) (J_li (d := 2) (x := 0) hn ⟨by decide, by omega, by decide⟩ (by decide) (by decide) (hL 42 (by decide)) rfl v8_2) ?_
    refine Rn_tr (T := (52, R8 r0 r1 0 0 r4 0 r6 r7, Y, tk, ou, sn)) (J_li (d := 3) (x := 0) hn ⟨by decide, by omega, by decide⟩ (by decide) (by decide) (hL 43 (by decide)) rfl v8_3) ?_
    exact J_li (d := 4) (x := 16) hn ⟨by decide, by omega, by decide⟩ (by decide) (by decide) (hL 44 (by decide)) rfl v8_4
theorem div_e (hn : n ≤ 8192) (h82 : 82 ≤ n) (hL : LbW W) {r0 r1 q r3 f r6 r7 s : Int} (h7 : (n : Int) ≤ r7 ∧ r7 + 2 < 8192) (hs : Y (r7 + 2).toNat = s) (hq : 0 ≤ q ∧ q < 65536) : ∃ a, Rn n W ni ip (69, R8 r0 r1 q r3 0 f r6 r7, Y, tk, ou, sn) (74, R8 a r1 (if 32767 < s then (-q) % 65536 else q) r3 0 0 r6 r7, Y, tk, ou, sn) := by
  refine ⟨s, ?_⟩
  by_cases c : 32767 < s
  · rw [if_pos c]
    refine Rn_tr (T := (70, R8 r0 r1 q r3 0 0 r6 r7, Y, tk, ou, sn)) (J_li (d := 5) (x := 0) hn ⟨by decide, by omega, by decide⟩ (by decide) (by decide) (hL 61 (by decide)) rfl v8_5) ?_
    refine Rn_tr (T := (71, R8 s r1 q r3 0 0 r6 r7, Y, tk, ou, sn)) (J_ld (d := 0) (a := 7) (x := 2) (A := (r7 + 2)) hn ⟨by decide, by omega, by decide⟩ (by decide) (by decide) (hL 62 (by decide)) rfl (by omega) hs v8_0) ?_
    refine Rn_tr (T := (73, R8 s r1 q r3 0 0 r6 r7, Y, tk, ou, sn)) (J_jn1 (d := 0) (x := 1) hn ⟨by decide, by omega, by decide⟩ (by decide) (by decide) (hL 63 (by decide)) c (by decide)) ?_
    exact J_sub (d := 2) (a := 5) (b := 2) hn ⟨by decide, by omega, by decide⟩ (by decide) (hL 65 (by decide)) (by show (0 - q) % 65536 = _; omega) v8_2
  · rw [if_neg c]
    refine Rn_tr (T := (70, R8 r0 r1 q r3 0 0 r6 r7, Y, tk, ou, sn)) (J_li (d := 5) (x := 0) hn ⟨by decide, by omega, by decide⟩ (by decide) (by decide) (hL 61 (by decide)) rfl v8_5) ?_
    refine Rn_tr (T := (71, R8 s r1 q r3 0 0 r6 r7, Y, tk, ou, sn)) (J_ld (d := 0) (a := 7) (x := 2) (A := (r7 + 2)) hn ⟨by decide, by omega, by decide⟩ (by decide) (by decide) (hL 62 (by decide)) rfl (by omega) hs v8_0) ?_
    refine Rn_tr (T := (72, R8 s r1 q r3 0 0 r6 r7, Y, tk, ou, sn)) (J_jn0 (d := 0) (x := 1) hn ⟨by decide, by omega, by decide⟩ (by decide) (by decide) (hL 63 (by decide)) c (by decide)) ?_
    exact J_ju (x := 1) hn ⟨by decide, by omega, by decide⟩ (by decide) (hL 64 (by decide)) (by decide)
theorem div_f (hn : n ≤ 8192) (h82 : 82 ≤ n) (hL : LbW W) {r0 r1 r2 ρ r6 r7 s v : Int} (h7 : (n : Int) ≤ r7 ∧ r7 + 2 < 8192) (hs : Y (r7 + 1).toNat = s) (hv : Y r7.toNat = v) (hq : 0 ≤ ρ ∧ ρ < 65536) : ∃ a, Rn n W ni ip (74, R8 r0 r1 r2 ρ 0 0 r6 r7, Y, tk, ou, sn) (v, R8 a r1 r2 (if 32767 < s then (-ρ) % 65536 else ρ) 0 80 r6 r7, Y, tk, ou, sn) := by
  refine ⟨s, ?_⟩
  by_cases c : 32767 < s
  · rw [if_pos c]
    refine Rn_tr (T := (75, R8 s r1 r2 ρ 0 0 r6 r7, Y, tk, ou, sn)) (J_ld (d := 0) (a := 7) (x := 1) (A := (r7 + 1)) hn ⟨by decide, by omega, by decide⟩ (by decide) (by decide) (hL 66 (by decide)) rfl (by omega) hs v8_0) ?_
    refine Rn_tr (T := (77, R8 s r1 r2 ρ 0 0 r6 r7, Y, tk, ou, sn)) (J_jn1 (d := 0) (x := 1) hn ⟨by decide, by omega, by decide⟩ (by decide) (by decide) (hL 67 (by decide)) c (by decide)) ?_
    refine Rn_tr (T := (78, R8 s r1 r2 ((-ρ) % 65536) 0 0 r6 r7, Y, tk, ou, sn)) (J_sub (d := 3) (a := 5) (b := 3) hn ⟨by decide, by omega, by decide⟩ (by decide) (hL 69 (by decide)) (by show (0 - ρ) % 65536 = _; omega) v8_3) ?_
    refine Rn_tr (T := (79, R8 s r1 r2 ((-ρ) % 65536) 0 v r6 r7, Y, tk, ou, sn)) (J_ld (d := 5) (a := 7) (x := 0) (A := r7) hn ⟨by decide, by omega, by decide⟩ (by decide) (by decide) (hL 70 (by decide)) (by show r7 + 0 = r7; omega) (by omega) hv v8_5) ?_
    exact J_call (d := 5) (a := 5) hn ⟨by decide, by omega⟩ (by decide) (hL 71 (by decide)) rfl v8_5
  · rw [if_neg c]
    refine Rn_tr (T := (75, R8 s r1 r2 ρ 0 0 r6 r7, Y, tk, ou, sn)) (J_ld (d := 0) (a := 7) (x := 1) (A := (r7 + 1)) hn ⟨by decide, by omega, by decide⟩ (by decide) (by decide) (hL 66 (by decide)) rfl (by omega) hs v8_0) ?_
    refine Rn_tr (T := (76, R8 s r1 r2 ρ 0 0 r6 r7, Y, tk, ou, sn)) (J_jn0 (d := 0) (x := 1) hn ⟨by decide, by omega, by decide⟩ (by decide) (by decide) (hL 67 (by decide)) c (by decide)) ?_
    refine Rn_tr (T := (78, R8 s r1 r2 ρ 0 0 r6 r7, Y, tk, ou, sn)) (J_ju (x := 1) hn ⟨by decide, by omega, by decide⟩ (by decide) (hL 68 (by decide)) (by decide)) ?_
    refine Rn_tr (T := (79, R8 s r1 r2 ρ 0 v r6 r7, Y, tk, ou, sn)) (J_ld (d := 5) (a := 7) (x := 0) (A := r7) hn ⟨by decide, by omega, by decide⟩ (by decide) (by decide) (hL 70 (by decide)) (by show r7 + 0 = r7; omega) (by omega) hv v8_5) ?_
    exact J_call (d := 5) (a := 5) hn ⟨by decide, by omega⟩ (by decide) (hL 71 (by decide)) rfl v8_5
theorem div_0 (hn : n ≤ 8192) (h82 : 82 ≤ n) (hL : LbW W) {r0 r2 r3 r4 r5 r6 r7 : Int} : Rn n W ni ip (38, R8 r0 0 r2 r3 r4 r5 r6 r7, Y, tk, ou, sn) (r5, R8 r0 0 r2 r3 3 82 r6 r7, Y, tk, ou, sn) := by
  refine Rn_tr (T := (80, R8 r0 0 r2 r3 r4 r5 r6 r7, Y, tk, ou, sn)) (J_jz1 (d := 1) (x := 41) hn ⟨by decide, by omega, by decide⟩ (by decide) (by decide) (hL 30 (by decide)) rfl (by decide)) ?_
  refine Rn_tr (T := (81, R8 r0 0 r2 r3 3 r5 r6 r7, Y, tk, ou, sn)) (J_li (d := 4) (x := 3) hn ⟨by decide, by omega, by decide⟩ (by decide) (by decide) (hL 72 (by decide)) rfl v8_4) ?_
  exact J_call (d := 5) (a := 5) hn ⟨by decide, by omega⟩ (by decide) (hL 73 (by decide)) rfl v8_5
theorem tdv {x y : Int} (hx : 0 ≤ x ∧ x < 65536) (hy : 0 ≤ y ∧ y < 65536) {α β q ρ : Int} (hα : (if 32767 < x then 65536 - x else x) = α) (hβ : (if 32767 < y then 65536 - y else y) = β) (hb : 1 ≤ β) (hq : α / β = q) (hr : α % β = ρ) : (sg x).tdiv (sg y) = (if 32767 < ixor x y then -q else q) ∧ (sg x).tmod (sg y) = (if 32767 < x then -ρ else ρ) := by
  have ha : 0 ≤ α := by
    rw [← hα]
    split <;> omega
  have e1 : α.tdiv β = q := by rw [Int.tdiv_eq_ediv_of_nonneg ha]; exact hq
  have e2 : α.tmod β = ρ := by rw [Int.tmod_eq_emod_of_nonneg ha]; exact hr
  have X := xor_s hx hy
  rw [sg_v hx, sg_v hy]
  by_cases c0 : 32767 < x <;> by_cases c1 : 32767 < y
  · rw [if_pos c0] at hα
    rw [if_pos c1] at hβ
    rw [if_pos c0, if_pos c1, if_neg (fun w => X.1 w (iff_of_true c0 c1)), if_pos c0, show x - 65536 = -α from by omega, show y - 65536 = -β from by omega, Int.neg_tdiv_neg, Int.neg_tmod, Int.tmod_neg, e1, e2]
    exact ⟨rfl, rfl⟩
  · rw [if_pos c0] at hα
    rw [if_neg c1] at hβ
    rw [if_pos c0, if_neg c1, if_pos (X.2 (fun w => c1 (w.1 c0))), if_pos c0, show x - 65536 = -α from by omega, hβ, Int.neg_tdiv, Int.neg_tmod, e1, e2]
    exact ⟨rfl, rfl⟩
  · rw [if_neg c0] at hα
    rw [if_pos c1] at hβ
    rw [if_neg c0, if_pos c1, if_pos (X.2 (fun w => c0 (w.2 c1))), if_neg c0, show y - 65536 = -β from by omega, hα, Int.tdiv_neg, Int.tmod_neg, e1, e2]
    exact ⟨rfl, rfl⟩
  · rw [if_neg c0] at hα
    rw [if_neg c1] at hβ
    rw [if_neg c0, if_neg c1, if_neg (fun w => X.1 w (iff_of_false c0 c1)), if_neg c0, hα, hβ, e1, e2]
    exact ⟨rfl, rfl⟩
/-- DIVIDE -/
theorem DIV (hn : n ≤ 8192) (h82 : 82 ≤ n) (hL : LbW W) {r0 r1 r2 r3 r5 r6 r7 : Int} (h0 : 0 ≤ r0 ∧ r0 < 65536) (h1 : 0 ≤ r1 ∧ r1 < 65536) (hz : r1 ≠ 0) (h7 : (n : Int) ≤ r7 ∧ r7 + 2 < 8192) : ∃ s0 s1 s2 s3 s5, Rn n W ni ip (38, R8 r0 r1 r2 r3 0 r5 r6 r7, Y, tk, ou, sn) (r5, R8 s0 s1 s2 s3 0 s5 r6 r7, vput (vput (vput Y r7.toNat r5) (r7 + 1).toNat r0) (r7 + 2).toNat (ixor r0 r1), tk, ou, sn) ∧ s2 = ((sg r0).tdiv (sg r1)) % 65536 ∧ s3 = ((sg r0).tmod (sg r1)) % 65536 ∧ (32767 < ixor r0 r1 → -32768 ≤ (sg r0).tdiv (sg r1) ∧ (sg r0).tdiv (sg r1) ≤ 32767) ∧ (¬ 32767 < ixor r0 r1 → 0 ≤ (sg r0).tdiv (sg r1) ∧ (sg r0).tdiv (sg r1) ≤ 32768) ∧ (-32768 ≤ (sg r0).tmod (sg r1) ∧ (sg r0).tmod (sg r1) ≤ 32767) := by
  generalize hY : vput (vput (vput Y r7.toNat r5) (r7 + 1).toNat r0) (r7 + 2).toNat (ixor r0 r1) = Z
  have y0 : Z r7.toNat = r5 := by
    rw [← hY]
    show (if r7.toNat = (r7 + 2).toNat then _ else if r7.toNat = (r7 + 1).toNat then _ else if r7.toNat = r7.toNat then _ else _) = _
    rw [if_neg (by omega), if_neg (by omega), if_pos rfl]
  have y1 : Z (r7 + 1).toNat = r0 := by
    rw [← hY]
    show (if (r7 + 1).toNat = (r7 + 2).toNat then _ else if (r7 + 1).toNat = (r7 + 1).toNat then _ else _) = _
    rw [if_neg (by omega), if_pos rfl]
  have y2 : Z (r7 + 2).toNat = ixor r0 r1 := by
    rw [← hY]
    exact if_pos rfl
  have sb := div_b (ni := ni) (ip := ip) (tk := tk) (ou := ou) (sn := sn) (Y := Y) (r0 := r0) (r2 := r2) (r3 := r3) (r4 := 0) (r5 := r5) (r6 := r6) hn h82 hL hz h7
  rw [hY] at sb
  have sc := div_c (ni := ni) (ip := ip) (tk := tk) (ou := ou) (sn := sn) (Y := Z) (r1 := r1) (r2 := ixor r0 r1) (r3 := r3) (r4 := 0) (r6 := r6) (r7 := r7) hn h82 hL h0
  have sd := div_d (ni := ni) (ip := ip) (tk := tk) (ou := ou) (sn := sn) (Y := Z) (r0 := if 32767 < r0 then 65536 - r0 else r0) (r2 := ixor r0 r1) (r3 := r3) (r4 := 0) (r6 := r6) (r7 := r7) hn h82 hL h1
  have s3 := Rn_tr sb (Rn_tr sc sd)
  obtain ⟨α, hα⟩ : ∃ α, (if 32767 < r0 then 65536 - r0 else r0) = α := ⟨_, rfl⟩
  obtain ⟨β, hβ⟩ : ∃ β, (if 32767 < r1 then 65536 - r1 else r1) = β := ⟨_, rfl⟩
  rw [hα, hβ] at s3
  have ha : 0 ≤ α ∧ α ≤ 32768 ∧ (¬ 32767 < r0 → α ≤ 32767) := by
    rw [← hα]
    split <;> omega
  have hb : 1 ≤ β ∧ β ≤ 32768 := by
    rw [← hβ]
    split <;> omega
  obtain ⟨a', q, ρ, f, w1, w2, w3, w4, w5⟩ := div_l (ni := ni) (ip := ip) (tk := tk) (ou := ou) (sn := sn) (Y := Z) (r6 := r6) (r7 := r7) hn h82 hL hb 15 (by decide) α 0 0 0 ha.1 (by omega) (by omega) (by omega) (by omega) (by decide)
  rw [Int.zero_mul, show ((2 ^ (15 + 1) : Nat) : Int) = 65536 from rfl] at w5
  have w6 : q * β + ρ = α := by omega
  have eq : α / β = q := by
    rw [← w6, Int.add_comm, Int.add_mul_ediv_right _ _ (by omega), Int.ediv_eq_zero_of_lt w2.1 w2.2, Int.zero_add]
  have er : α % β = ρ := by
    rw [← w6, Int.add_comm, Int.add_mul_emod_self_right]
    exact Int.emod_eq_of_lt w2.1 w2.2
  have hq : q ≤ α := by
    have : q * 1 ≤ q * β := Int.mul_le_mul_of_nonneg_left hb.1 w3.1
    omega
  obtain ⟨t1, t2⟩ := tdv h0 h1 hα hβ hb.1 eq er
  obtain ⟨a2, s4⟩ := div_e (ni := ni) (ip := ip) (tk := tk) (ou := ou) (sn := sn) (Y := Z) (r0 := a') (r1 := β) (r3 := ρ) (f := f) (r6 := r6) hn h82 hL h7 y2 w3
  obtain ⟨a3, s5⟩ := div_f (ni := ni) (ip := ip) (tk := tk) (ou := ou) (sn := sn) (Y := Z) (r0 := a2) (r1 := β) (r2 := if 32767 < ixor r0 r1 then (-q) % 65536 else q) (r6 := r6) hn h82 hL h7 y1 y0 (ρ := ρ) ⟨w2.1, by omega⟩
  have hρ : ρ ≤ 32767 := by omega
  refine ⟨a3, β, if 32767 < ixor r0 r1 then (-q) % 65536 else q, if 32767 < r0 then (-ρ) % 65536 else ρ, 80, Rn_tr s3 (Rn_tr w1 (Rn_tr s4 s5)), ?_, ?_, fun c => ?_, fun c => ?_, ?_⟩
  · rw [t1]
    split <;> omega
  · rw [t2]
    split <;> omega
  · rw [t1, if_pos c]
    omega
  · rw [t1, if_neg c]
    omega
  · rw [t2]
    split <;> omega
end Div
