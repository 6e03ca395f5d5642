/-! RULES OF THE WALK: what a tree does, a step at a time; what is still to be done stands as data (printed by a program) -/
def Cx (F d i : Nat) (vs : List Int) (h : xH) : Option (List Int × xH) := xcall pft pmt F pS d i vs h
def Ev (F d : Nat) (t : xT) (g : Nat) (s : xS) : Option xR := ev pft (xcall pft pmt F pS d) F pS t g s
def LF (F d : Nat) (a b c : xT) (n : Nat) (s : xS) : Option xR := xloop (fun t => Ev F d a 0 t) (fun t => Ev F d b 0 t) (fun t => Ev F d c 0 t) n s
def LW (F d : Nat) (b : xT) (n : Nat) (s : xS) : Option xR := xloop (fun t => some (0, [1], t)) (fun t => Ev F d b 0 t) (fun t => some (0, [], t)) n s
def LD (F d : Nat) (a b : xT) (n : Nat) (s : xS) : Option xR := xdo (fun t => Ev F d a 0 t) (fun t => Ev F d b 0 t) n s
def o1 (o : Option Int) (s : xS) : Option xR := match o with
  | some z => some (0, [z], s)
  | none => none
def K2 (t : Nat) (q : Option (Nat × Int)) (s : xS) : Option xR := match q with
  | some (t', n) => if t' = t then some (0, [n], s) else none
  | none => none
def K3b (i : Nat) (x : Int) (r : Option xR) : Option xR := xb r fun y s2 => o1 (xbin i x y) s2
def K3a (F d i : Nat) (b : xT) (r : Option xR) : Option xR := xb r fun x s1 => K3b i x (Ev F d b 0 s1)
def K4 (i : Nat) (r : Option xR) : Option xR := xb r fun x s1 => o1 (xun i x) s1
def K5 (c k : Nat) (r : Option xR) : Option xR := xb r fun x s1 => match xob s1.2 c x with
  | some p => some (0, [s1.2.2.2.2 p k], s1)
  | none => none
def K6b (i : Nat) (x : Int) (r : Option xR) : Option xR := xb r fun y s2 => match xat s2.2 i x y with
  | some (p, q) => some (0, [s2.2.2.2.2 p q], s2)
  | none => none
def K6a (F d i : Nat) (b : xT) (r : Option xR) : Option xR := xb r fun x s1 => K6b i x (Ev F d b 0 s1)
def K7 (i : Nat) (r : Option xR) : Option xR := xb r fun x s1 => if 0 ≤ x ∧ x < s1.2.1 ∧ s1.2.2.1 x.toNat = i then some (0, [(s1.2.2.2.1 x.toNat : Int)], s1) else none
def K8b (Lo : xL) (r : Option (List Int × xH)) : Option xR := match r with
  | some (r, h) => some (0, r, (Lo, h))
  | none => none
def K8 (F d i : Nat) (r : Option xR) : Option xR := xa r fun vs s1 => K8b s1.1 (Cx F d i vs s1.2)
def K9 (F d : Nat) (b c : xT) (r : Option xR) : Option xR := xb r fun x s1 => if x = 1 then Ev F d b 0 s1 else Ev F d c 0 s1
def nz (r : Option xR) : Option xR := match r with
  | some (0, _, _) => none
  | r => r
def K20b (i : Nat) (x : Int) (r : Option xR) : Option xR := xb r fun y s2 => some (0, [if xcmp i x y then 1 else 0], s2)
def K20 (F d i : Nat) (b : xT) (r : Option xR) : Option xR := xb r fun x s1 => K20b i x (Ev F d b 0 s1)
def K20b21 (i : Nat) (r : Option xR) : Option xR := xb r fun x s1 => some (0, [if xcmp i x 0 then 1 else 0], s1)
def K23 (F d : Nat) (b : xT) (r : Option xR) : Option xR := xb r fun x s1 => if x = 1 then Ev F d b 0 s1 else some (0, [0], s1)
def K24 (F d : Nat) (b : xT) (r : Option xR) : Option xR := xb r fun x s1 => if x = 1 then some (0, [1], s1) else Ev F d b 0 s1
def K25 (r : Option xR) : Option xR := xb r fun x s1 => some (0, [if x = 1 then 0 else 1], s1)
def K27 (F d : Nat) (b : xT) (r : Option xR) : Option xR := xb r fun x s1 => if x = 1 then nz (Ev F d b 0 s1) else some (0, [], s1)
def K28 (F d : Nat) (b c : xT) (r : Option xR) : Option xR := xb r fun x s1 => if x = 1 then Ev F d b 0 s1 else nz (Ev F d c 0 s1)
def K31 (F d : Nat) (b : xT) (r : Option xR) : Option xR := xq r fun s1 => Ev F d b 0 s1
def K32 (j t : Nat) (r : Option xR) : Option xR := xb r fun x s1 => if j + t % 2 < s1.1.length then some (0, [], (lset s1.1 j t x, s1.2)) else none
def K33 (j : Nat) (n : Int) (q : Option (Nat × Int)) (s : xS) : Option xR := match q with
  | some (0, x) => some (0, [], (lset s.1 j 0 (w32 (x + n)), s.2))
  | _ => none
def K34b (c k : Nat) (x : Int) (r : Option xR) : Option xR := xb r fun y s2 => match xob s2.2 c x with
  | some p => if pS ≤ p ∧ xfit (pft c k) y = true then some (0, [], (s2.1, hput s2.2 p k y)) else none
  | none => none
def K34 (F d c k : Nat) (b : xT) (r : Option xR) : Option xR := xb r fun x s1 => K34b c k x (Ev F d b 0 s1)
def K35c (i : Nat) (x y : Int) (r : Option xR) : Option xR := xb r fun z s3 => match xat s3.2 i x y with
  | some (p, q) => if pS ≤ p then some (0, [], (s3.1, hput s3.2 p q (xnar i z))) else none
  | none => none
def K35b (F d i : Nat) (c : xT) (x : Int) (r : Option xR) : Option xR := xb r fun y s2 => K35c i x y (Ev F d c 0 s2)
def K35 (F d i : Nat) (b c : xT) (r : Option xR) : Option xR := xb r fun x s1 => K35b F d i c x (Ev F d b 0 s1)
def K36 (r : Option xR) : Option xR := match r with
  | some (0, [], s1) => some (0, [], s1)
  | _ => none
def K37 (r : Option xR) : Option xR := xb r fun _ s1 => some (0, [], s1)
def K38 (F d : Nat) (b : xT) (r : Option xR) : Option xR := xb r fun x s1 => if x = 1 then Ev F d b 0 s1 else some (0, [], s1)
def K40 (F d : Nat) (b c : xT) (r : Option xR) : Option xR := xb r fun x s1 => if x = 1 then nz (Ev F d b 0 s1) else Ev F d c 0 s1
def K47 (r : Option xR) : Option xR := xb r fun x s1 => some (3, [x], s1)
def K49b (r : Option xR) : Option xR := match r with
  | some (1, _, s2) => some (0, [], s2)
  | r => r
def sw (tb : List (Int × Nat)) (dd : Nat) (x : Int) : Nat := match tb with
  | [] => dd
  | (v, g) :: r => if x = v then g else sw r dd x
theorem sw_eq (tb : List (Int × Nat)) (dd : Nat) (x : Int) : (tb.lookup x).getD dd = sw tb dd x := by
  induction tb with
  | nil => rfl
  | cons e r ih =>
    obtain ⟨v, g⟩ := e
    unfold List.lookup sw
    by_cases h : x = v
    · rw [if_pos h]; simp [h]
    · rw [if_neg h, ← ih]
      have : (x == v) = false := by simpa using h
      rw [this]
def K49 (F d dd : Nat) (tb : List (Int × Nat)) (c : xT) (r : Option xR) : Option xR := xb r fun x s1 => K49b (Ev F d c (sw tb dd x) s1)
def K50 (F d g : Nat) (a b : xT) (s : xS) : Option xR := match g with
  | 0 => nz (Ev F d a 0 s)
  | g + 1 => Ev F d b g s
def K51 (F d g : Nat) (a b : xT) (s : xS) : Option xR := match g with
  | 0 => K31 F d b (Ev F d a 0 s)
  | g + 1 => Ev F d b g s
def K54b (op c k : Nat) (x : Int) (p : Nat) (v : Int) (r : Option xR) : Option xR := xb r fun y s2 => match xbin op v y, xob s2.2 c x with
  | some z, some _ => if pS ≤ p then some (0, [], (s2.1, hput s2.2 p k z)) else none
  | _, _ => none
def K54 (F d op c k : Nat) (b : xT) (r : Option xR) : Option xR := xb r fun x s1 => match xob s1.2 c x with
  | some p => K54b op c k x p (s1.2.2.2.2 p k) (Ev F d b 0 s1)
  | none => none
def K55c (i : Nat) (x y : Int) (p q : Nat) (v : Int) (r : Option xR) : Option xR := xb r fun z s3 => match xbin i v z, xat s3.2 0 x y with
  | some w, some _ => if pS ≤ p then some (0, [], (s3.1, hput s3.2 p q w)) else none
  | _, _ => none
def K55b (F d i : Nat) (c : xT) (x : Int) (r : Option xR) : Option xR := xb r fun y s2 => match xat s2.2 0 x y with
  | some (p, q) => K55c i x y p q (s2.2.2.2.2 p q) (Ev F d c 0 s2)
  | none => none
def K55 (F d i : Nat) (b c : xT) (r : Option xR) : Option xR := xb r fun x s1 => K55b F d i c x (Ev F d b 0 s1)
def K58b (x : Int) (r : Option xR) : Option xR := xa r fun vs s2 => some (0, x :: vs, s2)
def K58 (F d : Nat) (b : xT) (r : Option xR) : Option xR := xb r fun x s1 => K58b x (Ev F d b 0 s1)
def K59 (r : Option xR) : Option xR := xa r fun vs s1 => match vs with
  | [src, sp, dst, dp, n] => match xcopy pS s1.2 src sp dst dp n with
    | some h => some (0, [], (s1.1, h))
    | none => none
  | _ => none
def rK (rt : Nat) (r : Option xR) : Option (List Int × xH) := match r with
  | some (3, v, s) => if xret rt v then some (v, s.2) else none
  | _ => none
def iand (x y : Int) : Int := (Int32.ofInt x &&& Int32.ofInt y).toInt
def ior (x y : Int) : Int := (Int32.ofInt x ||| Int32.ofInt y).toInt
def ixor (x y : Int) : Int := (Int32.ofInt x ^^^ Int32.ofInt y).toInt
def ishl (x y : Int) : Int := (Int32.ofInt x <<< (Int32.ofInt y &&& 31)).toInt
def ishr (x y : Int) : Int := (Int32.ofInt x >>> (Int32.ofInt y &&& 31)).toInt
def lkm (q : Option (Nat × Int)) (L : xL) (j : Nat) : xL := match q with
  | some (1, _) => L.set j (9, 0)
  | _ => L
section Rules
variable {F d g : Nat} {i : Int} {a b c : xT} {s : xS} {h : xH} {Lo : xL} {x y z : Int} {vs : List Int}
theorem ev_0 : Ev F d (nd 0 i a b) g s = some (0, [i], s) := (rfl)
theorem ev_1 : Ev F d (nd 1 i a b) g s = some (0, [i], s) := (rfl)
theorem ev_16 : Ev F d (nd 16 i a b) g s = some (0, [i], s) := (rfl)
theorem ev_17 : Ev F d (nd 17 i a b) g s = some (0, [i], s) := (rfl)
theorem ev_18 : Ev F d (nd 18 i a b) g s = some (0, [i], s) := (rfl)
theorem ev_2 : Ev F d (nd 2 i a b) g s = K2 (i.toNat % 4) (s.1[i.toNat / 4]?) s := by
  show (match s.1[i.toNat / 4]? with | some (t, n) => if t = i.toNat % 4 then some (0, [n], s) else none | none => none) = _
  unfold K2
  rfl
theorem ev_3 : Ev F d (nd 3 i a b) g s = K3a F d i.toNat b (Ev F d a 0 s) := (rfl)
theorem ev_4 : Ev F d (nd 4 i a b) g s = K4 i.toNat (Ev F d a 0 s) := (rfl)
theorem ev_5 : Ev F d (nd 5 i a b) g s = K5 (i.toNat / 1000) (i.toNat % 1000) (Ev F d a 0 s) := (rfl)
theorem ev_6 : Ev F d (nd 6 i a b) g s = K6a F d i.toNat b (Ev F d a 0 s) := (rfl)
theorem ev_7 : Ev F d (nd 7 i a b) g s = K7 i.toNat (Ev F d a 0 s) := (rfl)
theorem ev_8 : Ev F d (nd 8 i a b) g s = K8 F d i.toNat (Ev F d b 0 s) := (rfl)
theorem ev_9 : Ev F d (n3 9 i a b c) g s = K9 F d b c (Ev F d a 0 s) := (rfl)
theorem ev_20 : Ev F d (nd 20 i a b) g s = K20 F d i.toNat b (Ev F d a 0 s) := (rfl)
theorem ev_21 : Ev F d (nd 21 i a b) g s = K20b21 i.toNat (Ev F d a 0 s) := (rfl)
theorem ev_22 : Ev F d (nd 22 i a b) g s = K20 F d i.toNat b (Ev F d a 0 s) := (rfl)
theorem ev_23 : Ev F d (nd 23 i a b) g s = K23 F d b (Ev F d a 0 s) := (rfl)
theorem ev_24 : Ev F d (nd 24 i a b) g s = K24 F d b (Ev F d a 0 s) := (rfl)
theorem ev_25 : Ev F d (nd 25 i a b) g s = K25 (Ev F d a 0 s) := (rfl)
theorem ev_27 : Ev F d (nd 27 i a b) g s = K27 F d b (Ev F d a 0 s) := (rfl)
theorem ev_28 : Ev F d (n3 28 i a b c) g s = K28 F d b c (Ev F d a 0 s) := (rfl)
theorem ev_30 : Ev F d (nd 30 i a b) g s = some (0, [], s) := (rfl)
theorem ev_31 : Ev F d (nd 31 i a b) g s = K31 F d b (Ev F d a 0 s) := (rfl)
theorem ev_32 : Ev F d (nd 32 i a b) g s = K32 (i.toNat / 4) (i.toNat % 4) (Ev F d b 0 s) := (rfl)
theorem ev_33 : Ev F d (nd 33 i a b) g s = K33 (i.toNat / 65536) (i % 65536 - 32768) (s.1[i.toNat / 65536]?) s := by
  show (match s.1[i.toNat / 65536]? with | some (0, n) => some (0, [], (lset s.1 (i.toNat / 65536) 0 (w32 (n + (i % 65536 - 32768))), s.2)) | _ => none) = _
  unfold K33
  rfl
theorem ev_34 : Ev F d (nd 34 i a b) g s = K34 F d (i.toNat / 1000) (i.toNat % 1000) b (Ev F d a 0 s) := (rfl)
theorem ev_35 : Ev F d (n3 35 i a b c) g s = K35 F d i.toNat b c (Ev F d a 0 s) := (rfl)
theorem ev_36 : Ev F d (nd 36 i a b) g s = K36 (Ev F d a 0 s) := (rfl)
theorem ev_37 : Ev F d (nd 37 i a b) g s = K37 (Ev F d a 0 s) := (rfl)
theorem ev_38 : Ev F d (nd 38 i a b) g s = K38 F d b (Ev F d a 0 s) := (rfl)
theorem ev_39 : Ev F d (n3 39 i a b c) g s = K9 F d b c (Ev F d a 0 s) := (rfl)
theorem ev_40 : Ev F d (n3 40 i a b c) g s = K40 F d b c (Ev F d a 0 s) := (rfl)
theorem ev_41 : Ev F d (n3 41 i a b c) g s = LF F d a b c F s := (rfl)
theorem ev_42 : Ev F d (nd 42 i a b) g s = LW F d b F s := (rfl)
theorem ev_43 : Ev F d (nd 43 i a b) g s = LD F d a b F s := (rfl)
theorem ev_45 : Ev F d (nd 45 i a b) g s = some (1, [], s) := (rfl)
theorem ev_46 : Ev F d (nd 46 i a b) g s = some (2, [], s) := (rfl)
theorem ev_47 : Ev F d (nd 47 i a b) g s = K47 (Ev F d b 0 s) := (rfl)
theorem ev_48 : Ev F d (nd 48 i a b) g s = some (3, [], s) := (rfl)
theorem ev_49 : Ev F d (n3 49 i a b c) g s = K49 F d i.toNat (xtb b) c (Ev F d a 0 s) := by
  show xb (Ev F d a 0 s) _ = xb (Ev F d a 0 s) _
  congr 1
  funext x s1
  rw [← sw_eq]
  rfl
theorem ev_50 : Ev F d (nd 50 i a b) g s = K50 F d g a b s := by cases g <;> rfl
theorem ev_51 : Ev F d (nd 51 i a b) g s = K51 F d g a b s := by cases g <;> rfl
theorem ev_52 : Ev F d (nd 52 i a b) g s = some (0, [], s) := (rfl)
theorem ev_54 : Ev F d (nd 54 i a b) g s = K54 F d (i.toNat / 1000000) (i.toNat % 1000000 / 1000) (i.toNat % 1000) b (Ev F d a 0 s) := (rfl)
theorem ev_55 : Ev F d (n3 55 i a b c) g s = K55 F d i.toNat b c (Ev F d a 0 s) := (rfl)
theorem ev_57 : Ev F d (nd 57 i a b) g s = some (0, [], s) := (rfl)
theorem ev_58 : Ev F d (nd 58 i a b) g s = K58 F d b (Ev F d a 0 s) := (rfl)
theorem ev_59 : Ev F d (nd 59 i a b) g s = K59 (Ev F d b 0 s) := (rfl)
theorem k2_0 : K2 0 (some (0, x)) s = some (0, [x], s) := (rfl)
theorem k2_1 : K2 1 (some (1, x)) s = some (0, [x], s) := (rfl)
theorem k2_2 : K2 2 (some (2, x)) s = some (0, [x], s) := (rfl)
theorem k3a {j : Nat} : K3a F d j b (some (0, [x], s)) = K3b j x (Ev F d b 0 s) := (rfl)
theorem k3b {j : Nat} : K3b j x (some (0, [y], s)) = o1 (xbin j x y) s := (rfl)
theorem k4 {j : Nat} : K4 j (some (0, [x], s)) = o1 (xun j x) s := (rfl)
theorem o1_s : o1 (some x) s = some (0, [x], s) := (rfl)
theorem xbin_0 : xbin 0 x y = some (w32 (x + y)) := (rfl)
theorem xbin_1 : xbin 1 x y = some (w32 (x - y)) := (rfl)
theorem xbin_2 : xbin 2 x y = some (w32 (x * y)) := (rfl)
theorem xbin_3 (hy : y ≠ 0) : xbin 3 x y = some (w32 (x.tdiv y)) := if_neg hy
theorem xbin_4 (hy : y ≠ 0) : xbin 4 x y = some (x.tmod y) := if_neg hy
theorem xbin_5 : xbin 5 x y = some (iand x y) := (rfl)
theorem xbin_6 : xbin 6 x y = some (ior x y) := (rfl)
theorem xbin_7 : xbin 7 x y = some (ixor x y) := (rfl)
theorem xbin_8 : xbin 8 x y = some (ishl x y) := (rfl)
theorem xbin_9 : xbin 9 x y = some (ishr x y) := (rfl)
theorem xbin_11 : xbin 11 x y = some (w64 (x + y)) := (rfl)
theorem xbin_12 : xbin 12 x y = some (w64 (x * y)) := (rfl)
theorem xun_0 : xun 0 x = some (w32 (-x)) := (rfl)
theorem xun_1 : xun 1 x = some x := (rfl)
theorem xun_2 : xun 2 x = some (w32 x) := (rfl)
theorem xun_3 : xun 3 x = some (Int.bmod x 256) := (rfl)
theorem xun_4 : xun 4 x = some (x % 65536) := (rfl)
theorem xun_5 : xun 5 x = some (Int.bmod x 65536) := (rfl)
theorem k5 {k p : Nat} {cc : Nat} (ho : xob h cc x = some p) : K5 cc k (some (0, [x], (Lo, h))) = some (0, [h.2.2.2 p k], (Lo, h)) := by
  show (match xob h cc x with | some p => _ | none => none) = _
  rw [ho]
theorem k6a {j : Nat} : K6a F d j b (some (0, [x], s)) = K6b j x (Ev F d b 0 s) := (rfl)
theorem k6b {j p q : Nat} (ho : xat h j x y = some (p, q)) : K6b j x (some (0, [y], (Lo, h))) = some (0, [h.2.2.2 p q], (Lo, h)) := by
  show (match xat h j x y with | some (p, q) => _ | none => none) = _
  rw [ho]
theorem k7e {j : Nat} : K7 j (some (0, [x], (Lo, h))) = if 0 ≤ x ∧ x < (h.1 : Int) ∧ h.2.1 x.toNat = j then some (0, [(h.2.2.1 x.toNat : Int)], (Lo, h)) else none := (rfl)
theorem k8 {j : Nat} : K8 F d j (some (0, vs, (Lo, h))) = K8b Lo (Cx F d j vs h) := (rfl)
theorem k8b : K8b Lo (some (vs, h)) = some (0, vs, (Lo, h)) := (rfl)
theorem k9 : K9 F d b c (some (0, [x], s)) = if x = 1 then Ev F d b 0 s else Ev F d c 0 s := (rfl)
theorem k20 {j : Nat} : K20 F d j b (some (0, [x], s)) = K20b j x (Ev F d b 0 s) := (rfl)
theorem k20b_0 : K20b 0 x (some (0, [y], s)) = some (0, [if x = y then 1 else 0], s) := by
  show some (0, [if xcmp 0 x y then (1 : Int) else 0], s) = _
  simp [xcmp]
theorem k20b_1 : K20b 1 x (some (0, [y], s)) = some (0, [if ¬ x = y then 1 else 0], s) := by
  show some (0, [if xcmp 1 x y then (1 : Int) else 0], s) = _
  simp [xcmp]
theorem k20b_2 : K20b 2 x (some (0, [y], s)) = some (0, [if x < y then 1 else 0], s) := by
  show some (0, [if xcmp 2 x y then (1 : Int) else 0], s) = _
  simp [xcmp]
theorem k20b_3 : K20b 3 x (some (0, [y], s)) = some (0, [if y ≤ x then 1 else 0], s) := by
  show some (0, [if xcmp 3 x y then (1 : Int) else 0], s) = _
  simp [xcmp]
theorem k20b_4 : K20b 4 x (some (0, [y], s)) = some (0, [if y < x then 1 else 0], s) := by
  show some (0, [if xcmp 4 x y then (1 : Int) else 0], s) = _
  simp [xcmp]
theorem k20b_5 : K20b 5 x (some (0, [y], s)) = some (0, [if x ≤ y then 1 else 0], s) := by
  show some (0, [if xcmp 5 x y then (1 : Int) else 0], s) = _
  simp [xcmp]
theorem k21_0 : K20b21 0 (some (0, [x], s)) = some (0, [if x = 0 then 1 else 0], s) := by
  show some (0, [if xcmp 0 x 0 then (1 : Int) else 0], s) = _
  simp [xcmp]
theorem k21_1 : K20b21 1 (some (0, [x], s)) = some (0, [if ¬ x = 0 then 1 else 0], s) := by
  show some (0, [if xcmp 1 x 0 then (1 : Int) else 0], s) = _
  simp [xcmp]
theorem k21_2 : K20b21 2 (some (0, [x], s)) = some (0, [if x < 0 then 1 else 0], s) := by
  show some (0, [if xcmp 2 x 0 then (1 : Int) else 0], s) = _
  simp [xcmp]
theorem k21_3 : K20b21 3 (some (0, [x], s)) = some (0, [if 0 ≤ x then 1 else 0], s) := by
  show some (0, [if xcmp 3 x 0 then (1 : Int) else 0], s) = _
  simp [xcmp]
theorem k21_4 : K20b21 4 (some (0, [x], s)) = some (0, [if 0 < x then 1 else 0], s) := by
  show some (0, [if xcmp 4 x 0 then (1 : Int) else 0], s) = _
  simp [xcmp]
theorem k21_5 : K20b21 5 (some (0, [x], s)) = some (0, [if x ≤ 0 then 1 else 0], s) := by
  show some (0, [if xcmp 5 x 0 then (1 : Int) else 0], s) = _
  simp [xcmp]
theorem k23 : K23 F d b (some (0, [x], s)) = if x = 1 then Ev F d b 0 s else some (0, [0], s) := (rfl)
theorem k24 : K24 F d b (some (0, [x], s)) = if x = 1 then some (0, [1], s) else Ev F d b 0 s := (rfl)
theorem k25 : K25 (some (0, [x], s)) = some (0, [if x = 1 then 0 else 1], s) := (rfl)
theorem k27 : K27 F d b (some (0, [x], s)) = if x = 1 then nz (Ev F d b 0 s) else some (0, [], s) := (rfl)
theorem k28 : K28 F d b c (some (0, [x], s)) = if x = 1 then Ev F d b 0 s else nz (Ev F d c 0 s) := (rfl)
theorem k40 : K40 F d b c (some (0, [x], s)) = if x = 1 then nz (Ev F d b 0 s) else Ev F d c 0 s := (rfl)
theorem nz_1 : nz (some (1, vs, s)) = some (1, vs, s) := (rfl)
theorem nz_2 : nz (some (2, vs, s)) = some (2, vs, s) := (rfl)
theorem nz_3 : nz (some (3, vs, s)) = some (3, vs, s) := (rfl)
theorem k31_0 : K31 F d b (some (0, vs, s)) = Ev F d b 0 s := (rfl)
theorem k31_1 : K31 F d b (some (1, vs, s)) = some (1, vs, s) := (rfl)
theorem k31_2 : K31 F d b (some (2, vs, s)) = some (2, vs, s) := (rfl)
theorem k31_3 : K31 F d b (some (3, vs, s)) = some (3, vs, s) := (rfl)
theorem k32 {j t : Nat} (hl : j + t % 2 < Lo.length) : K32 j t (some (0, [x], (Lo, h))) = some (0, [], (lset Lo j t x, h)) := if_pos hl
theorem k33 {j : Nat} {n : Int} : K33 j n (some (0, x)) (Lo, h) = some (0, [], (lset Lo j 0 (w32 (x + n)), h)) := (rfl)
theorem k34 {cc k : Nat} : K34 F d cc k b (some (0, [x], s)) = K34b cc k x (Ev F d b 0 s) := (rfl)
theorem k34b {cc k p : Nat} (ho : xob h cc x = some p) (hp : pS ≤ p) (hf : xfit (pft cc k) y = true) : K34b cc k x (some (0, [y], (Lo, h))) = some (0, [], (Lo, hput h p k y)) := by
  show (match xob h cc x with | some p => if pS ≤ p ∧ xfit (pft cc k) y = true then some (0, [], (Lo, hput h p k y)) else none | none => none) = _
  rw [ho]
  exact if_pos ⟨hp, hf⟩
theorem k35 {j : Nat} : K35 F d j b c (some (0, [x], s)) = K35b F d j c x (Ev F d b 0 s) := (rfl)
theorem k35b {j : Nat} : K35b F d j c x (some (0, [y], s)) = K35c j x y (Ev F d c 0 s) := (rfl)
theorem k35c {j p q : Nat} (ho : xat h j x y = some (p, q)) (hp : pS ≤ p) : K35c j x y (some (0, [z], (Lo, h))) = some (0, [], (Lo, hput h p q (xnar j z))) := by
  show (match xat h j x y with | some (p, q) => if pS ≤ p then some (0, [], (Lo, hput h p q (xnar j z))) else none | none => none) = _
  rw [ho]
  exact if_pos hp
theorem xnar_0 : xnar 0 z = z := (rfl)
theorem xnar_1 : xnar 1 z = z := (rfl)
theorem xnar_2 : xnar 2 z = Int.bmod z 256 := (rfl)
theorem xnar_3 : xnar 3 z = z % 2 := (rfl)
theorem k36 : K36 (some (0, [], s)) = some (0, [], s) := (rfl)
theorem k37 : K37 (some (0, [x], s)) = some (0, [], s) := (rfl)
theorem k38 : K38 F d b (some (0, [x], s)) = if x = 1 then Ev F d b 0 s else some (0, [], s) := (rfl)
theorem k47 : K47 (some (0, [x], s)) = some (3, [x], s) := (rfl)
theorem k49 {dd : Nat} {tb : List (Int × Nat)} : K49 F d dd tb c (some (0, [x], s)) = K49b (Ev F d c (sw tb dd x) s) := (rfl)
theorem k49b_0 : K49b (some (0, vs, s)) = some (0, vs, s) := (rfl)
theorem k49b_1 : K49b (some (1, vs, s)) = some (0, [], s) := (rfl)
theorem k49b_2 : K49b (some (2, vs, s)) = some (2, vs, s) := (rfl)
theorem k49b_3 : K49b (some (3, vs, s)) = some (3, vs, s) := (rfl)
theorem k50_0 : K50 F d 0 a b s = nz (Ev F d a 0 s) := (rfl)
theorem k50_s {g : Nat} : K50 F d (g + 1) a b s = Ev F d b g s := (rfl)
theorem k51_0 : K51 F d 0 a b s = K31 F d b (Ev F d a 0 s) := (rfl)
theorem k51_s {g : Nat} : K51 F d (g + 1) a b s = Ev F d b g s := (rfl)
theorem k54 {op cc k p : Nat} (ho : xob h cc x = some p) : K54 F d op cc k b (some (0, [x], (Lo, h))) = K54b op cc k x p (h.2.2.2 p k) (Ev F d b 0 (Lo, h)) := by
  show (match xob h cc x with | some p => K54b op cc k x p (h.2.2.2 p k) (Ev F d b 0 (Lo, h)) | none => none) = _
  rw [ho]
theorem k54b {op cc k p p2 : Nat} {v w : Int} (hb : xbin op v y = some w) (ho : xob h cc x = some p2) (hp : pS ≤ p) : K54b op cc k x p v (some (0, [y], (Lo, h))) = some (0, [], (Lo, hput h p k w)) := by
  show (match xbin op v y, xob h cc x with | some z, some _ => if pS ≤ p then some (0, [], (Lo, hput h p k z)) else none | _, _ => none) = _
  rw [ho, hb]
  exact if_pos hp
theorem k55 {j : Nat} : K55 F d j b c (some (0, [x], s)) = K55b F d j c x (Ev F d b 0 s) := (rfl)
theorem k55b {j p q : Nat} (ho : xat h 0 x y = some (p, q)) : K55b F d j c x (some (0, [y], (Lo, h))) = K55c j x y p q (h.2.2.2 p q) (Ev F d c 0 (Lo, h)) := by
  show (match xat h 0 x y with | some (p, q) => K55c j x y p q (h.2.2.2 p q) (Ev F d c 0 (Lo, h)) | none => none) = _
  rw [ho]
theorem k55c {j p q : Nat} {pq : Nat × Nat} {v w : Int} (hb : xbin j v z = some w) (ho : xat h 0 x y = some pq) (hp : pS ≤ p) : K55c j x y p q v (some (0, [z], (Lo, h))) = some (0, [], (Lo, hput h p q w)) := by
  show (match xbin j v z, xat h 0 x y with | some z, some _ => if pS ≤ p then some (0, [], (Lo, hput h p q z)) else none | _, _ => none) = _
  rw [ho, hb]
  exact if_pos hp
theorem k58 : K58 F d b (some (0, [x], s)) = K58b x (Ev F d b 0 s) := (rfl)
theorem k58b : K58b x (some (0, vs, s)) = some (0, x :: vs, s) := (rfl)
theorem k59 {src sp dst dp n : Int} {h2 : xH} (hc : xcopy pS h src sp dst dp n = some h2) : K59 (some (0, [src, sp, dst, dp, n], (Lo, h))) = some (0, [], (Lo, h2)) := by
  show (match xcopy pS h src sp dst dp n with | some h => some (0, [], (Lo, h)) | none => none) = _
  rw [hc]
theorem rk_0 : rK 0 (some (3, [x], (Lo, h))) = some ([x], h) := (rfl)
theorem rk_1 : rK 1 (some (3, [x], (Lo, h))) = some ([x], h) := (rfl)
theorem rk_2 : rK 2 (some (3, [x], (Lo, h))) = some ([x], h) := (rfl)
theorem rk_9 : rK 9 (some (3, [], (Lo, h))) = some ([], h) := (rfl)
theorem rk_3 (hx : x = 0 ∨ x = 1) : rK 3 (some (3, [x], (Lo, h))) = some ([x], h) := if_pos (by simpa [xret] using hx)
theorem rk_4 (hx : -128 ≤ x ∧ x ≤ 127) : rK 4 (some (3, [x], (Lo, h))) = some ([x], h) := if_pos (by simpa [xret] using hx)
theorem rk_5 (hx : 0 ≤ x ∧ x ≤ 65535) : rK 5 (some (3, [x], (Lo, h))) = some ([x], h) := if_pos (by simpa [xret] using hx)
theorem xfit_0 : xfit 0 y = true := (rfl)
theorem xfit_1 : xfit 1 y = true := (rfl)
theorem xfit_2 : xfit 2 y = true := (rfl)
theorem xfit_3 (hy : y = 0 ∨ y = 1) : xfit 3 y = true := by simpa [xfit] using hy
theorem sw_n {dd : Nat} : sw [] dd x = dd := (rfl)
theorem sw_c {dd k : Nat} {v : Int} {tb : List (Int × Nat)} : sw ((v, k) :: tb) dd x = if x = v then k else sw tb dd x := (rfl)
theorem xtb_n : xtb xz = [] := (rfl)
theorem xtb_c {v : Int} {k : Nat} {r : xT} : xtb (nt v k r) = (v, k) :: xtb r := (rfl)
theorem lset_0 {j : Nat} : lset Lo j 0 x = (lkm (Lo[j - 1]?) Lo (j - 1)).set j (0, x) := by
  unfold lset lkill lkm
  rfl
theorem lset_2 {j : Nat} : lset Lo j 2 x = (lkm (Lo[j - 1]?) Lo (j - 1)).set j (2, x) := by
  unfold lset lkill lkm
  rfl
theorem lset_1 {j : Nat} : lset Lo j 1 x = ((lkm (Lo[j - 1]?) Lo (j - 1)).set j (1, x)).set (j + 1) (9, 0) := by
  unfold lset lkill lkm
  rfl
theorem lkm_0 {j : Nat} : lkm (some (0, x)) Lo j = Lo := (rfl)
theorem lkm_2 {j : Nat} : lkm (some (2, x)) Lo j = Lo := (rfl)
theorem lkm_9 {j : Nat} : lkm (some (9, x)) Lo j = Lo := (rfl)
theorem lkm_1 {j : Nat} : lkm (some (1, x)) Lo j = Lo.set j (9, 0) := (rfl)
theorem lkm_n {j : Nat} : lkm none Lo j = Lo := (rfl)
theorem if_some1 {p : Prop} [Decidable p] : (if p then some (0, [x], s) else some (0, [y], s) : Option xR) = some (0, [if p then x else y], s) := by split <;> rfl
theorem c_10 {p : Prop} [Decidable p] : ((if p then (1 : Int) else 0) = 1) = p := by by_cases hp : p <;> simp [hp]
theorem c_01 {p : Prop} [Decidable p] : ((if p then (0 : Int) else 1) = 1) = ¬ p := by by_cases hp : p <;> simp [hp]
theorem c_x0 {p : Prop} [Decidable p] : ((if p then x else (0 : Int)) = 1) = (p ∧ x = 1) := by by_cases hp : p <;> simp [hp]
theorem c_1x {p : Prop} [Decidable p] : ((if p then (1 : Int) else x) = 1) = (p ∨ x = 1) := by by_cases hp : p <;> simp [hp]
end Rules
