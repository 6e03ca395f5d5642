/-! LOOPS, a turn at a time -/
def L3 (F d : Nat) (a b c : xT) (n : Nat) (r : Option xR) : Option xR := match r with
  | some (0, _, s3) => LF F d a b c n s3
  | _ => none
def L2 (F d : Nat) (a b c : xT) (n : Nat) (r : Option xR) : Option xR := match r with
  | some (0, _, s2) | some (2, _, s2) => L3 F d a b c n (Ev F d c 0 s2)
  | some (1, _, s2) => some (0, [], s2)
  | some (3, v, s2) => some (3, v, s2)
  | _ => none
def L1 (F d : Nat) (a b c : xT) (n : Nat) (r : Option xR) : Option xR := match r with
  | some (0, [1], s1) => L2 F d a b c n (Ev F d b 0 s1)
  | some (0, [0], s1) => some (0, [], s1)
  | _ => none
def W2 (F d : Nat) (b : xT) (n : Nat) (r : Option xR) : Option xR := match r with
  | some (0, _, s2) | some (2, _, s2) => LW F d b n s2
  | some (1, _, s2) => some (0, [], s2)
  | some (3, v, s2) => some (3, v, s2)
  | _ => none
def D2 (F d : Nat) (a b : xT) (n : Nat) (r : Option xR) : Option xR := match r with
  | some (0, [1], s2) => LD F d a b n s2
  | some (0, [0], s2) => some (0, [], s2)
  | _ => none
def D1 (F d : Nat) (a b : xT) (n : Nat) (r : Option xR) : Option xR := match r with
  | some (0, _, s1) | some (2, _, s1) => D2 F d a b n (Ev F d b 0 s1)
  | some (1, _, s1) => some (0, [], s1)
  | some (3, v, s1) => some (3, v, s1)
  | _ => none
section Loops
variable {F d n : Nat} {a b c : xT} {s : xS} {vs : List Int} {x : Int}
theorem lf_s : LF F d a b c (n + 1) s = L1 F d a b c n (Ev F d a 0 s) := by
  unfold LF L1 L2 L3 xloop LF
  rfl
theorem lw_s : LW F d b (n + 1) s = W2 F d b n (Ev F d b 0 s) := by
  unfold LW W2 xloop LW
  rfl
theorem ld_s : LD F d a b (n + 1) s = D1 F d a b n (Ev F d a 0 s) := by
  unfold LD D1 D2 xdo LD
  rfl
theorem l1_i {p : Prop} [Decidable p] : L1 F d a b c n (some (0, [if p then 1 else 0], s)) = if p then L2 F d a b c n (Ev F d b 0 s) else some (0, [], s) := by
  by_cases h : p
  · simp only [if_pos h]; rfl
  · simp only [if_neg h]; rfl
theorem l1_1 : L1 F d a b c n (some (0, [1], s)) = L2 F d a b c n (Ev F d b 0 s) := (rfl)
theorem l1_0 : L1 F d a b c n (some (0, [0], s)) = some (0, [], s) := (rfl)
theorem l2_0 : L2 F d a b c n (some (0, vs, s)) = L3 F d a b c n (Ev F d c 0 s) := (rfl)
theorem l2_1 : L2 F d a b c n (some (1, vs, s)) = some (0, [], s) := (rfl)
theorem l2_2 : L2 F d a b c n (some (2, vs, s)) = L3 F d a b c n (Ev F d c 0 s) := (rfl)
theorem l2_3 : L2 F d a b c n (some (3, vs, s)) = some (3, vs, s) := (rfl)
theorem l3_0 : L3 F d a b c n (some (0, vs, s)) = LF F d a b c n s := (rfl)
theorem w2_0 : W2 F d b n (some (0, vs, s)) = LW F d b n s := (rfl)
theorem w2_1 : W2 F d b n (some (1, vs, s)) = some (0, [], s) := (rfl)
theorem w2_2 : W2 F d b n (some (2, vs, s)) = LW F d b n s := (rfl)
theorem w2_3 : W2 F d b n (some (3, vs, s)) = some (3, vs, s) := (rfl)
theorem d1_0 : D1 F d a b n (some (0, vs, s)) = D2 F d a b n (Ev F d b 0 s) := (rfl)
theorem d1_1 : D1 F d a b n (some (1, vs, s)) = some (0, [], s) := (rfl)
theorem d1_2 : D1 F d a b n (some (2, vs, s)) = D2 F d a b n (Ev F d b 0 s) := (rfl)
theorem d1_3 : D1 F d a b n (some (3, vs, s)) = some (3, vs, s) := (rfl)
theorem d2_i {p : Prop} [Decidable p] : D2 F d a b n (some (0, [if p then 1 else 0], s)) = if p then LD F d a b n s else some (0, [], s) := by
  by_cases h : p
  · simp only [if_pos h]; rfl
  · simp only [if_neg h]; rfl
theorem d2_1 : D2 F d a b n (some (0, [1], s)) = LD F d a b n s := (rfl)
theorem d2_0 : D2 F d a b n (some (0, [0], s)) = some (0, [], s) := (rfl)
end Loops
