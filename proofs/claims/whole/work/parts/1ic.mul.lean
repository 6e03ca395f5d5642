/-! THE LIBRARY: multiply -/
def lbw : List Int := [wrd 3 3 0 (lw 3 1), wrd 9 5 7 ((0) % 64), wrd 6 2 0 ((0) % 512), wrd 11 0 0 ((24) % 512), wrd 12 0 0 ((2) % 512), wrd 6 5 0 ((0) % 512), wrd 1 0 5 (lw 1 0), wrd 12 1 0 ((1) % 512), wrd 14 0 0 ((2) % 4096), wrd 6 5 0 ((0) % 512), wrd 1 1 5 (lw 1 1), wrd 11 1 0 ((12) % 512), wrd 6 5 0 ((1) % 512), wrd 2 5 5 (lw 2 1), wrd 11 5 0 ((3) % 512), wrd 0 2 2 (lw 0 0), wrd 12 2 0 ((1) % 512), wrd 14 0 0 ((4) % 4096), wrd 5 1 1 (lw 5 0), wrd 11 1 0 ((4) % 512), wrd 0 0 0 (lw 0 0), wrd 12 0 0 ((-11) % 512), wrd 6 4 0 ((1) % 512), wrd 14 0 0 ((4) % 4096), wrd 12 3 0 ((3) % 512), wrd 6 5 0 ((0) % 512), wrd 1 2 5 (lw 1 2), wrd 12 2 0 ((-6) % 512), wrd 8 5 7 ((0) % 64), wrd 13 5 5 0, wrd 11 1 0 ((41) % 512), wrd 9 5 7 ((0) % 64), wrd 9 0 7 ((1) % 64), wrd 3 2 0 (lw 3 1), wrd 9 2 7 ((2) % 64), wrd 6 5 0 ((0) % 512), wrd 12 0 0 ((1) % 512), wrd 14 0 0 ((1) % 4096), wrd 1 0 5 (lw 1 0), wrd 12 1 0 ((1) % 512), wrd 14 0 0 ((1) % 4096), wrd 1 1 5 (lw 1 1), wrd 6 2 0 ((0) % 512), wrd 6 3 0 ((0) % 512), wrd 6 4 0 ((16) % 512), wrd 0 3 3 (lw 0 3), wrd 0 2 2 (lw 0 2), wrd 12 0 0 ((1) % 512), wrd 14 0 0 ((1) % 4096), wrd 10 3 3 ((1) % 64), wrd 0 0 0 (lw 0 0), wrd 12 3 0 ((4) % 512), wrd 12 1 0 ((5) % 512), wrd 4 5 3 (lw 4 1), wrd 11 5 0 ((1) % 512), wrd 14 0 0 ((2) % 4096), wrd 1 3 3 (lw 1 1), wrd 10 2 2 ((1) % 64), wrd 10 4 4 ((-1) % 64), wrd 11 4 0 ((1) % 512), wrd 14 0 0 ((-16) % 4096), wrd 6 5 0 ((0) % 512), wrd 8 0 7 ((2) % 64), wrd 12 0 0 ((1) % 512), wrd 14 0 0 ((1) % 4096), wrd 1 2 5 (lw 1 2), wrd 8 0 7 ((1) % 64), wrd 12 0 0 ((1) % 512), wrd 14 0 0 ((1) % 4096), wrd 1 3 5 (lw 1 3), wrd 8 5 7 ((0) % 64), wrd 13 5 5 0, wrd 6 4 0 ((3) % 512), wrd 13 5 5 0]
def LbW (W : Nat → Int) : Prop := ∀ k, k < 74 → W (8 + k) = lbw.getD k 0
theorem iand_c (x y : Int) : iand x y = iand y x := by
  rw [iand_bv, iand_bv, BitVec.and_comm]
theorem ixor_n {x y : Int} (hx : 0 ≤ x ∧ x < 65536) (hy : 0 ≤ y ∧ y < 65536) : ixor x y = ((x.toNat ^^^ y.toNat : Nat) : Int) := by
  have hn : (BitVec.ofInt 32 x ^^^ BitVec.ofInt 32 y).toNat = x.toNat ^^^ y.toNat := by
    rw [BitVec.toNat_xor, bv_nat, bv_nat, show x % 4294967296 = x from by omega, show y % 4294967296 = y from by omega]
  have h2 : x.toNat ^^^ y.toNat < 2 ^ 16 := Nat.xor_lt_two_pow (by omega) (by omega)
  have e : (2 : Nat) ^ 16 = 65536 := by decide
  rw [ixor_bv, toInt_bv _ (by omega), hn]
theorem iand_n {x y : Int} (hx : 0 ≤ x ∧ x < 65536) (hy : 0 ≤ y ∧ y < 65536) : iand x y = ((x.toNat &&& y.toNat : Nat) : Int) := by
  have hn : (BitVec.ofInt 32 x &&& BitVec.ofInt 32 y).toNat = x.toNat &&& y.toNat := by
    rw [BitVec.toNat_and, bv_nat, bv_nat, show x % 4294967296 = x from by omega, show y % 4294967296 = y from by omega]
  have h2 : x.toNat &&& y.toNat < 2 ^ 16 := Nat.and_lt_two_pow _ (by omega)
  have e : (2 : Nat) ^ 16 = 65536 := by decide
  rw [iand_bv, toInt_bv _ (by omega), hn]
theorem tb_15 {a : Nat} (h : a < 65536) : a.testBit 15 = decide (32768 ≤ a) := by
  rw [Nat.testBit_eq_decide_div_mod_eq, show (2 : Nat) ^ 15 = 32768 from by decide]
  by_cases c : 32768 ≤ a
  · rw [decide_eq_true c]
    exact decide_eq_true (by omega)
  · rw [decide_eq_false c]
    exact decide_eq_false (by omega)
/-- the sign of an xor, of an and -/
theorem xor_s {x y : Int} (hx : 0 ≤ x ∧ x < 65536) (hy : 0 ≤ y ∧ y < 65536) : 32767 < ixor x y ↔ ¬ (32767 < x ↔ 32767 < y) := by
  have h2 : x.toNat ^^^ y.toNat < 2 ^ 16 := Nat.xor_lt_two_pow (by omega) (by omega)
  have e : (2 : Nat) ^ 16 = 65536 := by decide
  have t := Nat.testBit_xor x.toNat y.toNat 15
  rw [tb_15 (by omega), tb_15 (by omega), tb_15 (by omega)] at t
  rw [ixor_n hx hy]
  by_cases c1 : 32768 ≤ x.toNat <;> by_cases c2 : 32768 ≤ y.toNat <;> by_cases c3 : 32768 ≤ x.toNat ^^^ y.toNat <;> simp only [c1, c2, c3, decide_true, decide_false, Bool.xor_true, Bool.xor_false, Bool.not_true, Bool.not_false] at t <;> first | omega | exact absurd t (by decide)
theorem and_s {x y : Int} (hx : 0 ≤ x ∧ x < 65536) (hy : 0 ≤ y ∧ y < 65536) : 32767 < iand x y ↔ (32767 < x ∧ 32767 < y) := by
  have h2 : x.toNat &&& y.toNat < 2 ^ 16 := Nat.and_lt_two_pow _ (by omega)
  have e : (2 : Nat) ^ 16 = 65536 := by decide
  have t := Nat.testBit_and x.toNat y.toNat 15
  rw [tb_15 (by omega), tb_15 (by omega), tb_15 (by omega)] at t
  rw [iand_n hx hy]
  by_cases c1 : 32768 ≤ x.toNat <;> by_cases c2 : 32768 ≤ y.toNat <;> by_cases c3 : 32768 ≤ x.toNat &&& y.toNat <;> simp only [c1, c2, c3, decide_true, decide_false, Bool.and_true, Bool.and_false, Bool.true_and, Bool.false_and] at t <;> first | omega | exact absurd t (by decide)
theorem sg_v {x : Int} (hx : 0 ≤ x ∧ x < 65536) : sg x = if 32767 < x then x - 65536 else x := by
  unfold sg
  rw [Int.bmod_def]
  split <;> split <;> omega
section Mul
variable {n : Nat} {W : Nat → Int} {ni : Int} {ip : Nat → Int} {tk ou : Int} {Y sn : Nat → Int}
theorem mul_l (hn : n ≤ 8192) (h82 : 82 ≤ n) (hL : LbW W) {r3 r6 r7 : Int} : ∀ (N β : Nat), β < N → ∀ (α γ r5 : Int), 1 ≤ α → α ≤ 32768 → 0 ≤ γ → γ ≤ 32768 → (γ + α * (β : Int) ≤ 32768 ∧ ∃ a b f, Rn n W ni ip (19, R8 (65536 - α) (β : Int) ((-γ) % 65536) r3 0 r5 r6 r7, Y, tk, ou, sn) (32, R8 a b ((-(γ + α * (β : Int))) % 65536) r3 0 f r6 r7, Y, tk, ou, sn)) ∨ (32768 < γ + α * (β : Int) ∧ ∃ a b c f, Rn n W ni ip (19, R8 (65536 - α) (β : Int) ((-γ) % 65536) r3 0 r5 r6 r7, Y, tk, ou, sn) (30, R8 a b c r3 0 f r6 r7, Y, tk, ou, sn)) := by
  intro N
  induction N with
  | zero => intro β h; exact absurd h (Nat.not_lt_zero _)
  | succ N ih =>
    intro β hN α γ r5 a1 a2 g1 g2
    by_cases b0 : β = 0
    · subst b0
      left
      have e : γ + α * ((0 : Nat) : Int) = γ := by rw [show ((0 : Nat) : Int) = 0 from rfl, Int.mul_zero, Int.add_zero]
      rw [e]
      refine ⟨g2, 65536 - α, ((0 : Nat) : Int), r5, ?_⟩
      exact J_jz1 (d := 1) (x := 12) hn ⟨by decide, by omega, by decide⟩ (by decide) (by decide) (hL 11 (by decide)) rfl (by decide)
    · have hb : 1 ≤ β := by omega
      rcases Nat.mod_two_eq_zero_or_one β with c | c
      · have hh : (β : Int) = 2 * ((β / 2 : Nat) : Int) := by omega
        have em : α * (β : Int) = (2 * α) * ((β / 2 : Nat) : Int) := by
          rw [Int.mul_comm 2 α, Int.mul_assoc, ← hh]
        have hm : 1 * (2 * α) ≤ ((β / 2 : Nat) : Int) * (2 * α) := Int.mul_le_mul_of_nonneg_right (by omega) (by omega)
        rw [Int.mul_comm ((β / 2 : Nat) : Int)] at hm
        have step1 : Rn n W ni ip (19, R8 (65536 - α) (β : Int) ((-γ) % 65536) r3 0 r5 r6 r7, Y, tk, ou, sn) (29, R8 ((-(2 * α)) % 65536) ((β / 2 : Nat) : Int) ((-γ) % 65536) r3 0 ((β : Int) % 2) r6 r7, Y, tk, ou, sn) := by
          refine Rn_tr (T := (20, R8 (65536 - α) (β : Int) ((-γ) % 65536) r3 0 r5 r6 r7, Y, tk, ou, sn)) (J_jz0 (d := 1) (x := 12) hn ⟨by decide, by omega, by decide⟩ (by decide) (by decide) (hL 11 (by decide)) (by show (β : Int) ≠ 0; omega) (by decide)) ?_
          refine Rn_tr (T := (21, R8 (65536 - α) (β : Int) ((-γ) % 65536) r3 0 1 r6 r7, Y, tk, ou, sn)) (J_li (d := 5) (x := 1) hn ⟨by decide, by omega, by decide⟩ (by decide) (by decide) (hL 12 (by decide)) rfl v8_5) ?_
          refine Rn_tr (T := (22, R8 (65536 - α) (β : Int) ((-γ) % 65536) r3 0 ((β : Int) % 2) r6 r7, Y, tk, ou, sn)) (J_and (d := 5) (a := 5) (b := 1) hn ⟨by decide, by omega, by decide⟩ (by decide) (hL 13 (by decide)) (by show iand 1 (β : Int) = _; rw [iand_c, iand_1]) v8_5) ?_
          refine Rn_tr (T := (26, R8 (65536 - α) (β : Int) ((-γ) % 65536) r3 0 ((β : Int) % 2) r6 r7, Y, tk, ou, sn)) (J_jz1 (d := 5) (x := 3) hn ⟨by decide, by omega, by decide⟩ (by decide) (by decide) (hL 14 (by decide)) (by show (β : Int) % 2 = 0; omega) (by decide)) ?_
          refine Rn_tr (T := (27, R8 (65536 - α) ((β / 2 : Nat) : Int) ((-γ) % 65536) r3 0 ((β : Int) % 2) r6 r7, Y, tk, ou, sn)) (J_half (d := 1) (a := 1) (x := 0) hn ⟨by decide, by omega, by decide⟩ (by decide) (hL 18 (by decide)) (by show (β : Int) / 2 = _; omega) v8_1) ?_
          refine Rn_tr (T := (28, R8 (65536 - α) ((β / 2 : Nat) : Int) ((-γ) % 65536) r3 0 ((β : Int) % 2) r6 r7, Y, tk, ou, sn)) (J_jz0 (d := 1) (x := 4) hn ⟨by decide, by omega, by decide⟩ (by decide) (by decide) (hL 19 (by decide)) (by show ((β / 2 : Nat) : Int) ≠ 0; omega) (by decide)) ?_
          exact J_add (d := 0) (a := 0) (b := 0) hn ⟨by decide, by omega, by decide⟩ (by decide) (hL 20 (by decide)) (by show (65536 - α + (65536 - α)) % 65536 = _; omega) v8_0
        by_cases c2 : 2 * α ≤ 32768
        · have step2 : Rn n W ni ip (19, R8 (65536 - α) (β : Int) ((-γ) % 65536) r3 0 r5 r6 r7, Y, tk, ou, sn) (19, R8 (65536 - 2 * α) ((β / 2 : Nat) : Int) ((-(γ)) % 65536) r3 0 ((β : Int) % 2) r6 r7, Y, tk, ou, sn) := by
            refine Rn_tr step1 ?_
            rw [show (-(2 * α)) % 65536 = 65536 - 2 * α from by omega]
            exact J_jn1 (d := 0) (x := -11) hn ⟨by decide, by omega, by decide⟩ (by decide) (by decide) (hL 21 (by decide)) (by show 32767 < 65536 - 2 * α; omega) (by decide)
          rcases ih (β / 2) (by omega) (2 * α) (γ) ((β : Int) % 2) (by omega) c2 (by omega) (by omega) with ⟨u, a, b, f, w⟩ | ⟨u, a, b, x, f, w⟩
          · exact Or.inl ⟨by rw [em]; exact u, a, b, f, by rw [em]; exact Rn_tr step2 w⟩
          · exact Or.inr ⟨by rw [em]; exact u, a, b, x, f, Rn_tr step2 w⟩
        · right
          refine ⟨by rw [em]; omega, (-(2 * α)) % 65536, ((β / 2 : Nat) : Int), ((-(γ)) % 65536), (β : Int) % 2, ?_⟩
          refine Rn_tr step1 ?_
          exact J_jn0 (d := 0) (x := -11) hn ⟨by decide, by omega, by decide⟩ (by decide) (by decide) (hL 21 (by decide)) (by show ¬ 32767 < (-(2 * α)) % 65536; omega) (by decide)
      · have hh : (β : Int) = 2 * ((β / 2 : Nat) : Int) + 1 := by omega
        have em : α * (β : Int) = α + (2 * α) * ((β / 2 : Nat) : Int) := by
          rw [hh, Int.mul_add, Int.mul_one, Int.mul_comm 2 α, Int.mul_assoc, Int.add_comm]
        have hm0 : 0 ≤ (2 * α) * ((β / 2 : Nat) : Int) := Int.mul_nonneg (by omega) (by omega)
        have step0 : Rn n W ni ip (19, R8 (65536 - α) (β : Int) ((-γ) % 65536) r3 0 r5 r6 r7, Y, tk, ou, sn) (24, R8 (65536 - α) (β : Int) ((-(γ + α)) % 65536) r3 0 ((β : Int) % 2) r6 r7, Y, tk, ou, sn) := by
          refine Rn_tr (T := (20, R8 (65536 - α) (β : Int) ((-γ) % 65536) r3 0 r5 r6 r7, Y, tk, ou, sn)) (J_jz0 (d := 1) (x := 12) hn ⟨by decide, by omega, by decide⟩ (by decide) (by decide) (hL 11 (by decide)) (by show (β : Int) ≠ 0; omega) (by decide)) ?_
          refine Rn_tr (T := (21, R8 (65536 - α) (β : Int) ((-γ) % 65536) r3 0 1 r6 r7, Y, tk, ou, sn)) (J_li (d := 5) (x := 1) hn ⟨by decide, by omega, by decide⟩ (by decide) (by decide) (hL 12 (by decide)) rfl v8_5) ?_
          refine Rn_tr (T := (22, R8 (65536 - α) (β : Int) ((-γ) % 65536) r3 0 ((β : Int) % 2) r6 r7, Y, tk, ou, sn)) (J_and (d := 5) (a := 5) (b := 1) hn ⟨by decide, by omega, by decide⟩ (by decide) (hL 13 (by decide)) (by show iand 1 (β : Int) = _; rw [iand_c, iand_1]) v8_5) ?_
          refine Rn_tr (T := (23, R8 (65536 - α) (β : Int) ((-γ) % 65536) r3 0 ((β : Int) % 2) r6 r7, Y, tk, ou, sn)) (J_jz0 (d := 5) (x := 3) hn ⟨by decide, by omega, by decide⟩ (by decide) (by decide) (hL 14 (by decide)) (by show (β : Int) % 2 ≠ 0; omega) (by decide)) ?_
          exact J_add (d := 2) (a := 2) (b := 0) hn ⟨by decide, by omega, by decide⟩ (by decide) (hL 15 (by decide)) (by show ((-γ) % 65536 + (65536 - α)) % 65536 = _; omega) v8_2
        by_cases c1 : γ + α ≤ 32768
        · have stepA : Rn n W ni ip (19, R8 (65536 - α) (β : Int) ((-γ) % 65536) r3 0 r5 r6 r7, Y, tk, ou, sn) (27, R8 (65536 - α) ((β / 2 : Nat) : Int) ((-(γ + α)) % 65536) r3 0 ((β : Int) % 2) r6 r7, Y, tk, ou, sn) := by
            refine Rn_tr step0 ?_
            refine Rn_tr (T := (26, R8 (65536 - α) (β : Int) ((-(γ + α)) % 65536) r3 0 ((β : Int) % 2) r6 r7, Y, tk, ou, sn)) (J_jn1 (d := 2) (x := 1) hn ⟨by decide, by omega, by decide⟩ (by decide) (by decide) (hL 16 (by decide)) (by show 32767 < (-(γ + α)) % 65536; omega) (by decide)) ?_
            exact J_half (d := 1) (a := 1) (x := 0) hn ⟨by decide, by omega, by decide⟩ (by decide) (hL 18 (by decide)) (by show (β : Int) / 2 = _; omega) v8_1
          by_cases c3 : β / 2 = 0
          · left
            have e0 : (2 * α) * ((β / 2 : Nat) : Int) = 0 := by rw [c3]; exact Int.mul_zero _
            rw [em, e0, Int.add_zero]
            refine ⟨c1, (65536 - α), ((β / 2 : Nat) : Int), (β : Int) % 2, Rn_tr stepA ?_⟩
            exact J_jz1 (d := 1) (x := 4) hn ⟨by decide, by omega, by decide⟩ (by decide) (by decide) (hL 19 (by decide)) (by show ((β / 2 : Nat) : Int) = 0; omega) (by decide)
          · have hm : 1 * (2 * α) ≤ ((β / 2 : Nat) : Int) * (2 * α) := Int.mul_le_mul_of_nonneg_right (by omega) (by omega)
            rw [Int.mul_comm ((β / 2 : Nat) : Int)] at hm
            have step1 : Rn n W ni ip (19, R8 (65536 - α) (β : Int) ((-γ) % 65536) r3 0 r5 r6 r7, Y, tk, ou, sn) (29, R8 ((-(2 * α)) % 65536) ((β / 2 : Nat) : Int) ((-(γ + α)) % 65536) r3 0 ((β : Int) % 2) r6 r7, Y, tk, ou, sn) := by
              refine Rn_tr stepA ?_
              refine Rn_tr (T := (28, R8 (65536 - α) ((β / 2 : Nat) : Int) ((-(γ + α)) % 65536) r3 0 ((β : Int) % 2) r6 r7, Y, tk, ou, sn)) (J_jz0 (d := 1) (x := 4) hn ⟨by decide, by omega, by decide⟩ (by decide) (by decide) (hL 19 (by decide)) (by show ((β / 2 : Nat) : Int) ≠ 0; omega) (by decide)) ?_
              exact J_add (d := 0) (a := 0) (b := 0) hn ⟨by decide, by omega, by decide⟩ (by decide) (hL 20 (by decide)) (by show (65536 - α + (65536 - α)) % 65536 = _; omega) v8_0
            by_cases c2 : 2 * α ≤ 32768
            · have step2 : Rn n W ni ip (19, R8 (65536 - α) (β : Int) ((-γ) % 65536) r3 0 r5 r6 r7, Y, tk, ou, sn) (19, R8 (65536 - 2 * α) ((β / 2 : Nat) : Int) ((-(γ + α)) % 65536) r3 0 ((β : Int) % 2) r6 r7, Y, tk, ou, sn) := by
                refine Rn_tr step1 ?_
                rw [show (-(2 * α)) % 65536 = 65536 - 2 * α from by omega]
                exact J_jn1 (d := 0) (x := -11) hn ⟨by decide, by omega, by decide⟩ (by decide) (by decide) (hL 21 (by decide)) (by show 32767 < 65536 - 2 * α; omega) (by decide)
              rcases ih (β / 2) (by omega) (2 * α) (γ + α) ((β : Int) % 2) (by omega) c2 (by omega) (by omega) with ⟨u, a, b, f, w⟩ | ⟨u, a, b, x, f, w⟩
              · rw [Int.add_assoc] at u w
                exact Or.inl ⟨by rw [em]; exact u, a, b, f, by rw [em]; exact Rn_tr step2 w⟩
              · rw [Int.add_assoc] at u
                exact Or.inr ⟨by rw [em]; exact u, a, b, x, f, Rn_tr step2 w⟩
            · right
              refine ⟨by rw [em]; omega, (-(2 * α)) % 65536, ((β / 2 : Nat) : Int), ((-(γ + α)) % 65536), (β : Int) % 2, ?_⟩
              refine Rn_tr step1 ?_
              exact J_jn0 (d := 0) (x := -11) hn ⟨by decide, by omega, by decide⟩ (by decide) (by decide) (hL 21 (by decide)) (by show ¬ 32767 < (-(2 * α)) % 65536; omega) (by decide)
        · right
          refine ⟨by rw [em]; omega, (65536 - α), (β : Int), ((-(γ + α)) % 65536), (β : Int) % 2, Rn_tr step0 ?_⟩
          refine Rn_tr (T := (25, R8 (65536 - α) (β : Int) ((-(γ + α)) % 65536) r3 0 ((β : Int) % 2) r6 r7, Y, tk, ou, sn)) (J_jn0 (d := 2) (x := 1) hn ⟨by decide, by omega, by decide⟩ (by decide) (by decide) (hL 16 (by decide)) (by show ¬ 32767 < (-(γ + α)) % 65536; omega) (by decide)) ?_
          exact J_ju (x := 4) hn ⟨by decide, by omega, by decide⟩ (by decide) (hL 17 (by decide)) (by decide)
/-- the end: r5 is brought back -/
theorem mul_e (hn : n ≤ 8192) (h82 : 82 ≤ n) (hL : LbW W) {r0 r1 r2 r3 r4 r5 r6 r7 v : Int} (h7 : (n : Int) ≤ r7 ∧ r7 < 8192) (hY : Y r7.toNat = v) : Rn n W ni ip (36, R8 r0 r1 r2 r3 r4 r5 r6 r7, Y, tk, ou, sn) (v, R8 r0 r1 r2 r3 r4 38 r6 r7, Y, tk, ou, sn) := by
  refine Rn_tr (T := (37, R8 r0 r1 r2 r3 r4 v r6 r7, Y, tk, ou, sn)) (J_ld (d := 5) (a := 7) (x := 0) (A := r7) hn ⟨by decide, by omega, by decide⟩ (by decide) (by decide) (hL 28 (by decide)) (by show r7 + 0 = r7; omega) (by omega) hY v8_5) ?_
  exact J_call (d := 5) (a := 5) hn ⟨by decide, by omega⟩ (by decide) (hL 29 (by decide)) rfl v8_5
theorem mul_f (hn : n ≤ 8192) (h82 : 82 ≤ n) (hL : LbW W) {r0 r1 r2 r3 r4 r5 r6 r7 v : Int} (h7 : (n : Int) ≤ r7 ∧ r7 < 8192) (hY : Y r7.toNat = v) : Rn n W ni ip (30, R8 r0 r1 r2 r3 r4 r5 r6 r7, Y, tk, ou, sn) (v, R8 r0 r1 r2 r3 1 38 r6 r7, Y, tk, ou, sn) := by
  refine Rn_tr (T := (31, R8 r0 r1 r2 r3 1 r5 r6 r7, Y, tk, ou, sn)) (J_li (d := 4) (x := 1) hn ⟨by decide, by omega, by decide⟩ (by decide) (by decide) (hL 22 (by decide)) rfl v8_4) ?_
  refine Rn_tr (T := (36, R8 r0 r1 r2 r3 1 r5 r6 r7, Y, tk, ou, sn)) (J_ju (x := 4) hn ⟨by decide, by omega, by decide⟩ (by decide) (hL 23 (by decide)) (by decide)) ?_
  exact mul_e hn h82 hL h7 hY
theorem mul_b (hn : n ≤ 8192) (h82 : 82 ≤ n) (hL : LbW W) {r0 r1 r2 r3 r5 r6 r7 : Int} (h0 : 0 ≤ r0 ∧ r0 < 65536) (h1 : 0 ≤ r1 ∧ r1 < 65536) (h7 : (n : Int) ≤ r7 ∧ r7 < 8192) : Rn n W ni ip (8, R8 r0 r1 r2 r3 0 r5 r6 r7, Y, tk, ou, sn) (11, R8 r0 r1 0 (ixor r0 r1) 0 r5 r6 r7, vput Y r7.toNat r5, tk, ou, sn) := by
  refine Rn_tr (T := (9, R8 r0 r1 r2 (ixor r0 r1) 0 r5 r6 r7, Y, tk, ou, sn)) (J_xor (d := 3) (a := 0) (b := 1) hn ⟨by decide, by omega, by decide⟩ (by decide) (hL 0 (by decide)) rfl v8_3) ?_
  refine Rn_tr (T := (10, R8 r0 r1 r2 (ixor r0 r1) 0 r5 r6 r7, (vput Y r7.toNat r5), tk, ou, sn)) (J_st (d := 5) (a := 7) (x := 0) (A := r7) hn ⟨by decide, by omega, by decide⟩ (by decide) (by decide) (hL 1 (by decide)) (by show r7 + 0 = r7; omega) (by omega) rfl) ?_
  exact J_li (d := 2) (x := 0) hn ⟨by decide, by omega, by decide⟩ (by decide) (by decide) (hL 2 (by decide)) rfl v8_2
theorem mul_a (hn : n ≤ 8192) (h82 : 82 ≤ n) (hL : LbW W) {r0 r1 r3 r5 r6 r7 : Int} (h0 : 0 ≤ r0 ∧ r0 < 65536) (hz : r0 ≠ 0) : ∃ f, Rn n W ni ip (11, R8 r0 r1 0 r3 0 r5 r6 r7, Y, tk, ou, sn) (15, R8 (65536 - (if 32767 < r0 then 65536 - r0 else r0)) r1 0 r3 0 f r6 r7, Y, tk, ou, sn) := by
  by_cases c : 32767 < r0
  · refine ⟨r5, ?_⟩
    rw [if_pos c, show 65536 - (65536 - r0) = r0 from by omega]
    refine Rn_tr (T := (12, R8 r0 r1 0 r3 0 r5 r6 r7, Y, tk, ou, sn)) (J_jz0 (d := 0) (x := 24) hn ⟨by decide, by omega, by decide⟩ (by decide) (by decide) (hL 3 (by decide)) hz (by decide)) ?_
    exact J_jn1 (d := 0) (x := 2) hn ⟨by decide, by omega, by decide⟩ (by decide) (by decide) (hL 4 (by decide)) c (by decide)
  · refine ⟨0, ?_⟩
    rw [if_neg c]
    refine Rn_tr (T := (12, R8 r0 r1 0 r3 0 r5 r6 r7, Y, tk, ou, sn)) (J_jz0 (d := 0) (x := 24) hn ⟨by decide, by omega, by decide⟩ (by decide) (by decide) (hL 3 (by decide)) hz (by decide)) ?_
    refine Rn_tr (T := (13, R8 r0 r1 0 r3 0 r5 r6 r7, Y, tk, ou, sn)) (J_jn0 (d := 0) (x := 2) hn ⟨by decide, by omega, by decide⟩ (by decide) (by decide) (hL 4 (by decide)) c (by decide)) ?_
    refine Rn_tr (T := (14, R8 r0 r1 0 r3 0 0 r6 r7, Y, tk, ou, sn)) (J_li (d := 5) (x := 0) hn ⟨by decide, by omega, by decide⟩ (by decide) (by decide) (hL 5 (by decide)) rfl v8_5) ?_
    exact J_sub (d := 0) (a := 5) (b := 0) hn ⟨by decide, by omega, by decide⟩ (by decide) (hL 6 (by decide)) (by show (0 - r0) % 65536 = _; omega) v8_0
theorem mul_c (hn : n ≤ 8192) (h82 : 82 ≤ n) (hL : LbW W) {r0 r1 r3 r5 r6 r7 : Int} (h1 : 0 ≤ r1 ∧ r1 < 65536) : ∃ f, Rn n W ni ip (15, R8 r0 r1 0 r3 0 r5 r6 r7, Y, tk, ou, sn) (19, R8 r0 (if 32767 < r1 then 65536 - r1 else r1) 0 r3 0 f r6 r7, Y, tk, ou, sn) := by
  by_cases c : 32767 < r1
  · refine ⟨0, ?_⟩
    rw [if_pos c]
    refine Rn_tr (T := (17, R8 r0 r1 0 r3 0 r5 r6 r7, Y, tk, ou, sn)) (J_jn1 (d := 1) (x := 1) hn ⟨by decide, by omega, by decide⟩ (by decide) (by decide) (hL 7 (by decide)) c (by decide)) ?_
    refine Rn_tr (T := (18, R8 r0 r1 0 r3 0 0 r6 r7, Y, tk, ou, sn)) (J_li (d := 5) (x := 0) hn ⟨by decide, by omega, by decide⟩ (by decide) (by decide) (hL 9 (by decide)) rfl v8_5) ?_
    exact J_sub (d := 1) (a := 5) (b := 1) hn ⟨by decide, by omega, by decide⟩ (by decide) (hL 10 (by decide)) (by show (0 - r1) % 65536 = _; omega) v8_1
  · refine ⟨r5, ?_⟩
    rw [if_neg c]
    refine Rn_tr (T := (16, R8 r0 r1 0 r3 0 r5 r6 r7, Y, tk, ou, sn)) (J_jn0 (d := 1) (x := 1) hn ⟨by decide, by omega, by decide⟩ (by decide) (by decide) (hL 7 (by decide)) c (by decide)) ?_
    exact J_ju (x := 2) hn ⟨by decide, by omega, by decide⟩ (by decide) (hL 8 (by decide)) (by decide)
theorem mul_d (hn : n ≤ 8192) (h82 : 82 ≤ n) (hL : LbW W) {a b f r3 r6 r7 g v : Int} (h7 : (n : Int) ≤ r7 ∧ r7 < 8192) (hY : Y r7.toNat = v) (hg : 0 ≤ g ∧ g ≤ 32768) : ∃ c s2, Rn n W ni ip (32, R8 a b ((-g) % 65536) r3 0 f r6 r7, Y, tk, ou, sn) (v, R8 a b s2 r3 c 38 r6 r7, Y, tk, ou, sn) ∧ ((32767 < r3 ∧ c = 0 ∧ s2 = (-g) % 65536) ∨ (¬ 32767 < r3 ∧ g ≤ 32767 ∧ c = 0 ∧ s2 = g) ∨ (¬ 32767 < r3 ∧ g = 32768 ∧ c = 1)) := by
  by_cases c3 : 32767 < r3
  · refine ⟨0, (-g) % 65536, ?_, Or.inl ⟨c3, rfl, rfl⟩⟩
    refine Rn_tr (T := (36, R8 a b ((-g) % 65536) r3 0 f r6 r7, Y, tk, ou, sn)) (J_jn1 (d := 3) (x := 3) hn ⟨by decide, by omega, by decide⟩ (by decide) (by decide) (hL 24 (by decide)) c3 (by decide)) ?_
    exact mul_e hn h82 hL h7 hY
  · have s : Rn n W ni ip (32, R8 a b ((-g) % 65536) r3 0 f r6 r7, Y, tk, ou, sn) (35, R8 a b g r3 0 0 r6 r7, Y, tk, ou, sn) := by
      refine Rn_tr (T := (33, R8 a b ((-g) % 65536) r3 0 f r6 r7, Y, tk, ou, sn)) (J_jn0 (d := 3) (x := 3) hn ⟨by decide, by omega, by decide⟩ (by decide) (by decide) (hL 24 (by decide)) c3 (by decide)) ?_
      refine Rn_tr (T := (34, R8 a b ((-g) % 65536) r3 0 0 r6 r7, Y, tk, ou, sn)) (J_li (d := 5) (x := 0) hn ⟨by decide, by omega, by decide⟩ (by decide) (by decide) (hL 25 (by decide)) rfl v8_5) ?_
      exact J_sub (d := 2) (a := 5) (b := 2) hn ⟨by decide, by omega, by decide⟩ (by decide) (hL 26 (by decide)) (by show (0 - (-g) % 65536) % 65536 = _; omega) v8_2
    by_cases c : g ≤ 32767
    · refine ⟨0, g, Rn_tr s ?_, Or.inr (Or.inl ⟨c3, c, rfl, rfl⟩)⟩
      refine Rn_tr (T := (36, R8 a b g r3 0 0 r6 r7, Y, tk, ou, sn)) (J_jn0 (d := 2) (x := -6) hn ⟨by decide, by omega, by decide⟩ (by decide) (by decide) (hL 27 (by decide)) (by show ¬ 32767 < g; omega) (by decide)) ?_
      exact mul_e hn h82 hL h7 hY
    · refine ⟨1, g, Rn_tr s ?_, Or.inr (Or.inr ⟨c3, by omega, rfl⟩)⟩
      refine Rn_tr (T := (30, R8 a b g r3 0 0 r6 r7, Y, tk, ou, sn)) (J_jn1 (d := 2) (x := -6) hn ⟨by decide, by omega, by decide⟩ (by decide) (by decide) (hL 27 (by decide)) (by show 32767 < g; omega) (by decide)) ?_
      exact mul_f hn h82 hL h7 hY
/-- MULTIPLY -/
theorem MUL (hn : n ≤ 8192) (h82 : 82 ≤ n) (hL : LbW W) {r0 r1 r2 r3 r5 r6 r7 : Int} (h0 : 0 ≤ r0 ∧ r0 < 65536) (h1 : 0 ≤ r1 ∧ r1 < 65536) (h7 : (n : Int) ≤ r7 ∧ r7 < 8192) : ∃ s0 s1 s2 s3 s5 c, Rn n W ni ip (8, R8 r0 r1 r2 r3 0 r5 r6 r7, Y, tk, ou, sn) (r5, R8 s0 s1 s2 s3 c s5 r6 r7, vput Y r7.toNat r5, tk, ou, sn) ∧ ((c = 0 ∧ (-32768 ≤ sg r0 * sg r1 ∧ sg r0 * sg r1 ≤ 32767) ∧ s2 = (sg r0 * sg r1) % 65536) ∨ (c = 1 ∧ ¬ (-32768 ≤ sg r0 * sg r1 ∧ sg r0 * sg r1 ≤ 32767))) := by
  have hY : vput Y r7.toNat r5 r7.toNat = r5 := if_pos rfl
  have sb := mul_b (ni := ni) (ip := ip) (tk := tk) (ou := ou) (sn := sn) (Y := Y) (r2 := r2) (r3 := r3) (r5 := r5) (r6 := r6) hn h82 hL h0 h1 h7
  by_cases hz : r0 = 0
  · refine ⟨r0, r1, 0, ixor r0 r1, 38, 0, Rn_tr sb ?_, Or.inl ⟨rfl, ?_⟩⟩
    refine Rn_tr (T := (36, R8 r0 r1 0 (ixor r0 r1) 0 r5 r6 r7, (vput Y r7.toNat r5), tk, ou, sn)) (J_jz1 (d := 0) (x := 24) hn ⟨by decide, by omega, by decide⟩ (by decide) (by decide) (hL 3 (by decide)) hz (by decide)) ?_
    exact mul_e hn h82 hL h7 hY
    · subst hz
      rw [show sg 0 = 0 from rfl, Int.zero_mul]
      exact ⟨by decide, rfl⟩
  · obtain ⟨f1, sa⟩ := mul_a (ni := ni) (ip := ip) (tk := tk) (ou := ou) (sn := sn) (Y := vput Y r7.toNat r5) (r1 := r1) (r3 := ixor r0 r1) (r5 := r5) (r6 := r6) (r7 := r7) hn h82 hL h0 hz
    obtain ⟨f2, sc⟩ := mul_c (ni := ni) (ip := ip) (tk := tk) (ou := ou) (sn := sn) (Y := vput Y r7.toNat r5) (r0 := 65536 - (if 32767 < r0 then 65536 - r0 else r0)) (r3 := ixor r0 r1) (r5 := f1) (r6 := r6) (r7 := r7) hn h82 hL h1
    have hx := xor_s h0 h1
    rw [sg_v h0, sg_v h1]
    generalize hα : (if 32767 < r0 then 65536 - r0 else r0) = α at *
    generalize hβ : (if 32767 < r1 then 65536 - r1 else r1) = β at *
    have ha : 1 ≤ α ∧ α ≤ 32768 := by
      rw [← hα]
      split <;> omega
    have hb : 0 ≤ β ∧ β ≤ 32768 := by
      rw [← hβ]
      split <;> omega
    have s3 := Rn_tr sb (Rn_tr sa sc)
    -- the product
    have hprod : (32767 < ixor r0 r1 → (if 32767 < r0 then r0 - 65536 else r0) * (if 32767 < r1 then r1 - 65536 else r1) = -(α * β)) ∧ (¬ 32767 < ixor r0 r1 → (if 32767 < r0 then r0 - 65536 else r0) * (if 32767 < r1 then r1 - 65536 else r1) = α * β) := by
      rw [hx, ← hα, ← hβ]
      by_cases c0 : 32767 < r0 <;> by_cases c1 : 32767 < r1
      · rw [if_pos c0, if_pos c1, if_pos c0, if_pos c1]
        refine ⟨fun w => absurd (iff_of_true c0 c1) w, fun _ => ?_⟩
        rw [← Int.neg_mul_neg, Int.neg_sub, Int.neg_sub]
      · rw [if_pos c0, if_neg c1, if_pos c0, if_neg c1]
        refine ⟨fun _ => ?_, fun w => absurd (fun q => c1 (q.1 c0)) w⟩
        rw [← Int.neg_mul, Int.neg_sub]
      · rw [if_neg c0, if_pos c1, if_neg c0, if_pos c1]
        refine ⟨fun _ => ?_, fun w => absurd (fun q => c0 (q.2 c1)) w⟩
        rw [← Int.mul_neg, Int.neg_sub]
      · rw [if_neg c0, if_neg c1, if_neg c0, if_neg c1]
        exact ⟨fun w => absurd (iff_of_false c0 c1) w, fun _ => rfl⟩
    generalize (if 32767 < r0 then r0 - 65536 else r0) * (if 32767 < r1 then r1 - 65536 else r1) = P at *
    have hab : 0 ≤ α * β := Int.mul_nonneg (by omega) (by omega)
    have eb : ((β.toNat : Nat) : Int) = β := Int.toNat_of_nonneg hb.1
    rcases mul_l (ni := ni) (ip := ip) (tk := tk) (ou := ou) (sn := sn) (Y := vput Y r7.toNat r5) (r3 := ixor r0 r1) (r6 := r6) (r7 := r7) hn h82 hL (β.toNat + 1) β.toNat (by omega) α 0 f2 ha.1 ha.2 (by omega) (by omega) with ⟨u, a, b, f, w⟩ | ⟨u, a, b, x, f, w⟩
    · rw [eb, Int.zero_add] at u w
      obtain ⟨c, s2, d1, d2⟩ := mul_d (ni := ni) (ip := ip) (tk := tk) (ou := ou) (sn := sn) (Y := vput Y r7.toNat r5) (a := a) (b := b) (f := f) (r3 := ixor r0 r1) (r6 := r6) (g := α * β) (v := r5) hn h82 hL h7 hY ⟨hab, u⟩
      refine ⟨a, b, s2, ixor r0 r1, 38, c, Rn_tr s3 (Rn_tr w d1), ?_⟩
      rcases d2 with ⟨q1, q2, q3⟩ | ⟨q1, q2, q3, q4⟩ | ⟨q1, q2, q3⟩
      · left
        rw [hprod.1 q1]
        exact ⟨q2, by omega, q3⟩
      · left
        rw [hprod.2 q1]
        exact ⟨q3, by omega, by omega⟩
      · right
        rw [hprod.2 q1]
        exact ⟨q3, by omega⟩
    · rw [eb, Int.zero_add] at u
      rw [eb] at w
      refine ⟨a, b, x, ixor r0 r1, 38, 1, Rn_tr s3 (Rn_tr w (mul_f hn h82 hL h7 hY)), Or.inr ⟨rfl, ?_⟩⟩
      by_cases q : 32767 < ixor r0 r1
      · rw [hprod.1 q]
        omega
      · rw [hprod.2 q]
        omega
end Mul
