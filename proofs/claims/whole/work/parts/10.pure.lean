/-! THE PURE MACHINE: a small language of trees over a memory of integers. A tree is a Std.Format (no new type may be made here): node k i a b. -/
abbrev xT : Type := Std.Format
abbrev nd (k : Nat) (i : Int) (a b : xT) : xT := Std.Format.tag k (Std.Format.nest i (Std.Format.append a b))
abbrev xz : xT := Std.Format.nil
def w32 (x : Int) : Int := Int.bmod x 4294967296
def w64 (x : Int) : Int := Int.bmod x 18446744073709551616
/-- size, kind of a cell, length of a cell, what it holds -/
abbrev xH : Type := Nat × (Nat → Nat) × (Nat → Nat) × (Nat → Nat → Int)
abbrev xL : Type := List (Nat × Int)
abbrev xS : Type := xL × xH
abbrev xR : Type := Nat × List Int × xS
def hput (h : xH) (a k : Nat) (v : Int) : xH := (h.1, h.2.1, h.2.2.1, fun a' k' => if a' = a then (if k' = k then v else h.2.2.2 a' k') else h.2.2.2 a' k')
def hrow (h : xH) (a : Nat) (f : Nat → Int) : xH := (h.1, h.2.1, h.2.2.1, fun a' k' => if a' = a then f k' else h.2.2.2 a' k')
/-- the type of field k of class c: 0 int, 2 a reference -/
abbrev xF : Type := Nat → Nat → Nat
def hnew (ft : xF) (h : xH) (kd n : Nat) : xH := (h.1 + 1, fun a' => if a' = h.1 then kd else h.2.1 a', fun a' => if a' = h.1 then n else h.2.2.1 a',
  fun a' k' => if a' = h.1 then (if 10 ≤ kd then (if ft (kd - 10) k' = 2 then -1 else 0) else 0) else h.2.2.2 a' k')
def lkill (L : xL) (j : Nat) : xL := match L[j]? with
  | some (1, _) => L.set j (9, 0)
  | _ => L
def lset (L : xL) (i t : Nat) (n : Int) : xL := if t = 1 then ((lkill L (i - 1)).set i (1, n)).set (i + 1) (9, 0) else (lkill L (i - 1)).set i (t, n)
def xbin (op : Nat) (x y : Int) : Option Int := match op with
  | 0 => some (w32 (x + y))
  | 1 => some (w32 (x - y))
  | 2 => some (w32 (x * y))
  | 3 => if y = 0 then none else some (w32 (x.tdiv y))
  | 4 => if y = 0 then none else some (x.tmod y)
  | 5 => some ((Int32.ofInt x &&& Int32.ofInt y).toInt)
  | 6 => some ((Int32.ofInt x ||| Int32.ofInt y).toInt)
  | 7 => some ((Int32.ofInt x ^^^ Int32.ofInt y).toInt)
  | 8 => some ((Int32.ofInt x <<< (Int32.ofInt y &&& 31)).toInt)
  | 9 => some ((Int32.ofInt x >>> (Int32.ofInt y &&& 31)).toInt)
  | 10 => some (((Int32.ofInt x).toUInt32 >>> ((Int32.ofInt y).toUInt32 &&& Int32.toUInt32 31)).toInt32.toInt)
  | 11 => some (w64 (x + y))
  | 12 => some (w64 (x * y))
  | _ => none
def xun (op : Nat) (x : Int) : Option Int := match op with
  | 0 => some (w32 (-x))
  | 1 => some x
  | 2 => some (w32 x)
  | 3 => some (Int.bmod x 256)
  | 4 => some (x % 65536)
  | 5 => some (Int.bmod x 65536)
  | _ => none
def xcmp (op : Nat) (x y : Int) : Bool := match op with
  | 0 => decide (x = y)
  | 1 => !decide (x = y)
  | 2 => decide (x < y)
  | 3 => decide (y ≤ x)
  | 4 => decide (y < x)
  | _ => decide (x ≤ y)
/-- what a store into an array of a kind keeps -/
def xnar (kd : Nat) (n : Int) : Int := match kd with
  | 2 => Int.bmod n 256
  | 3 => n % 2
  | _ => n
/-- where a place of an array lies: kinds 0 int, 1 long, 2 byte, 3 boolean -/
def xat (h : xH) (kd : Nat) (a i : Int) : Option (Nat × Nat) :=
  if 0 ≤ a ∧ a < h.1 ∧ h.2.1 a.toNat = kd ∧ 0 ≤ i ∧ i < h.2.2.1 a.toNat then some (a.toNat, i.toNat) else none
def xob (h : xH) (c : Nat) (a : Int) : Option Nat := if 0 ≤ a ∧ a < h.1 ∧ h.2.1 a.toNat = 10 + c then some a.toNat else none
/-- a loop: its test, its body, its step -/
def xloop (c : xS → Option xR) (b : xS → Option xR) (u : xS → Option xR) : Nat → xS → Option xR
  | 0, _ => none
  | n + 1, s => match c s with
    | some (0, [1], s1) => match b s1 with
      | some (0, _, s2) | some (2, _, s2) => match u s2 with
        | some (0, _, s3) => xloop c b u n s3
        | _ => none
      | some (1, _, s2) => some (0, [], s2)
      | some (3, v, s2) => some (3, v, s2)
      | _ => none
    | some (0, [0], s1) => some (0, [], s1)
    | _ => none
/-- a loop whose test stands behind -/
def xdo (b : xS → Option xR) (c : xS → Option xR) : Nat → xS → Option xR
  | 0, _ => none
  | n + 1, s => match b s with
    | some (0, _, s1) | some (2, _, s1) => match c s1 with
      | some (0, [1], s2) => xdo b c n s2
      | some (0, [0], s2) => some (0, [], s2)
      | _ => none
    | some (1, _, s1) => some (0, [], s1)
    | some (3, v, s1) => some (3, v, s1)
    | _ => none
/-- on with the one value -/
def xb (r : Option xR) (f : Int → xS → Option xR) : Option xR := match r with
  | some (0, [x], s) => f x s
  | _ => none
/-- on with the values -/
def xa (r : Option xR) (f : List Int → xS → Option xR) : Option xR := match r with
  | some (0, vs, s) => f vs s
  | _ => none
/-- on behind a statement -/
def xq (r : Option xR) (f : xS → Option xR) : Option xR := match r with
  | some (0, _, s) => f s
  | some (c + 1, v, s) => some (c + 1, v, s)
  | none => none
def xtb : xT → List (Int × Nat)
  | .nest v (.tag g r) => (v, g) :: xtb r
  | _ => []
/-- may a field of this type hold this number -/
def xfit (t : Nat) (n : Int) : Bool := match t with
  | 3 => decide (n = 0 ∨ n = 1)
  | 4 => decide (-128 ≤ n ∧ n ≤ 127)
  | _ => true
def xcopy (S : Nat) (h : xH) (src sp dst dp n : Int) : Option xH :=
  if 0 ≤ src ∧ src < h.1 ∧ h.2.1 src.toNat = 0 ∧ S ≤ src ∧ S ≤ dst ∧ dst < h.1 ∧ h.2.1 dst.toNat = 0 ∧ 0 ≤ sp ∧ 0 ≤ dp ∧ 0 ≤ n ∧ sp + n ≤ h.2.2.1 src.toNat ∧ dp + n ≤ h.2.2.1 dst.toNat
  then some (hrow h dst.toNat (fun j => if dp.toNat ≤ j ∧ j < dp.toNat + n.toNat then h.2.2.2 src.toNat (sp.toNat + (j - dp.toNat)) else h.2.2.2 dst.toNat j)) else none
/-- bytes, out of a cell that is not one's own -/
def xcopyB (S : Nat) (h : xH) (src sp dst dp n : Int) : Option xH :=
  if 0 ≤ src ∧ src < S ∧ src < h.1 ∧ h.2.1 src.toNat = 2 ∧ S ≤ dst ∧ dst < h.1 ∧ h.2.1 dst.toNat = 2 ∧ 0 ≤ sp ∧ 0 ≤ dp ∧ 0 ≤ n ∧ sp + n ≤ h.2.2.1 src.toNat ∧ dp + n ≤ h.2.2.1 dst.toNat ∧ (∀ i, i < n.toNat → -128 ≤ h.2.2.2 src.toNat (sp.toNat + i) ∧ h.2.2.2 src.toNat (sp.toNat + i) ≤ 127)
  then some (hrow h dst.toNat (fun j => if dp.toNat ≤ j ∧ j < dp.toNat + n.toNat then h.2.2.2 src.toNat (sp.toNat + (j - dp.toNat)) else h.2.2.2 dst.toNat j)) else none
/-- what a tree does: ft the fields' types, cl the calls, F how often a loop may go round, S where one's own cells begin -/
def ev (ft : xF) (cl : Nat → List Int → xH → Option (List Int × xH)) (F S : Nat) : xT → Nat → xS → Option xR
  | .group (.tag k (.nest i (.append a (.append b c)))) _ => fun _ s => match k with
    | 9 => xb (ev ft cl F S a 0 s) fun x s1 => if x = 1 then ev ft cl F S b 0 s1 else ev ft cl F S c 0 s1
    | 35 => xb (ev ft cl F S a 0 s) fun x s1 => xb (ev ft cl F S b 0 s1) fun y s2 => xb (ev ft cl F S c 0 s2) fun z s3 => match xat s3.2 i.toNat x y with
      | some (p, q) => if S ≤ p then some (0, [], (s3.1, hput s3.2 p q (xnar i.toNat z))) else none
      | none => none
    | 39 => xb (ev ft cl F S a 0 s) fun x s1 => if x = 1 then ev ft cl F S b 0 s1 else ev ft cl F S c 0 s1
    | 40 => xb (ev ft cl F S a 0 s) fun x s1 => if x = 1 then (match ev ft cl F S b 0 s1 with
      | some (0, _, _) => none
      | r => r) else ev ft cl F S c 0 s1
    | 28 => xb (ev ft cl F S a 0 s) fun x s1 => if x = 1 then ev ft cl F S b 0 s1 else (match ev ft cl F S c 0 s1 with
      | some (0, _, _) => none
      | r => r)
    | 41 => xloop (fun t => ev ft cl F S a 0 t) (fun t => ev ft cl F S b 0 t) (fun t => ev ft cl F S c 0 t) F s
    | 49 => xb (ev ft cl F S a 0 s) fun x s1 => match ev ft cl F S c (((xtb b).lookup x).getD i.toNat) s1 with
      | some (1, _, s2) => some (0, [], s2)
      | r => r
    | 55 => xb (ev ft cl F S a 0 s) fun x s1 => xb (ev ft cl F S b 0 s1) fun y s2 => match xat s2.2 0 x y with
      | some (p, q) => xb (ev ft cl F S c 0 s2) fun z s3 => match xbin i.toNat (s2.2.2.2.2 p q) z, xat s3.2 0 x y with
        | some w, some _ => if S ≤ p then some (0, [], (s3.1, hput s3.2 p q w)) else none
        | _, _ => none
      | none => none
    | _ => none
  | .tag k (.nest i (.append a b)) => fun g s => match k with
    | 0 => some (0, [i], s)
    | 1 => some (0, [i], s)
    | 2 => match s.1[i.toNat / 4]? with
      | some (t, n) => if t = i.toNat % 4 then some (0, [n], s) else none
      | none => none
    | 3 => xb (ev ft cl F S a 0 s) fun x s1 => xb (ev ft cl F S b 0 s1) fun y s2 => match xbin i.toNat x y with
      | some z => some (0, [z], s2)
      | none => none
    | 4 => xb (ev ft cl F S a 0 s) fun x s1 => match xun i.toNat x with
      | some z => some (0, [z], s1)
      | none => none
    | 5 => xb (ev ft cl F S a 0 s) fun x s1 => match xob s1.2 (i.toNat / 1000) x with
      | some p => some (0, [s1.2.2.2.2 p (i.toNat % 1000)], s1)
      | none => none
    | 6 => xb (ev ft cl F S a 0 s) fun x s1 => xb (ev ft cl F S b 0 s1) fun y s2 => match xat s2.2 i.toNat x y with
      | some (p, q) => some (0, [s2.2.2.2.2 p q], s2)
      | none => none
    | 7 => xb (ev ft cl F S a 0 s) fun x s1 => if 0 ≤ x ∧ x < s1.2.1 ∧ s1.2.2.1 x.toNat = i.toNat then some (0, [(s1.2.2.2.1 x.toNat : Int)], s1) else none
    | 8 => xa (ev ft cl F S b 0 s) fun vs s1 => match cl i.toNat vs s1.2 with
      | some (r, h) => some (0, r, (s1.1, h))
      | none => none
    | 10 => xa (ev ft cl F S b 0 (s.1, hnew ft s.2 (10 + i.toNat / 1000) 0)) fun vs s1 => match cl (i.toNat % 1000) ((s.2.1 : Int) :: vs) s1.2 with
      | some ([], h) => some (0, [(s.2.1 : Int)], (s1.1, h))
      | _ => none
    | 12 => xb (ev ft cl F S a 0 s) fun x s1 => if 0 ≤ x ∧ x ≤ 100000 then some (0, [(s1.2.1 : Int)], (s1.1, hnew ft s1.2 i.toNat x.toNat)) else none
    | 13 => xa (ev ft cl F S b s.2.1 (s.1, hnew ft s.2 (i.toNat / 1000) (i.toNat % 1000))) fun _ s1 => some (0, [(s.2.1 : Int)], s1)
    | 14 => xb (ev ft cl F S a 0 s) fun z s1 => match xat s1.2 1 g i with
      | some (p, q) => if S ≤ p then ev ft cl F S b g (s1.1, hput s1.2 p q z) else none
      | none => none
    | 16 => some (0, [i], s)
    | 17 => some (0, [i], s)
    | 18 => some (0, [i], s)
    | 20 => xb (ev ft cl F S a 0 s) fun x s1 => xb (ev ft cl F S b 0 s1) fun y s2 => some (0, [if xcmp i.toNat x y then 1 else 0], s2)
    | 21 => xb (ev ft cl F S a 0 s) fun x s1 => some (0, [if xcmp i.toNat x 0 then 1 else 0], s1)
    | 22 => xb (ev ft cl F S a 0 s) fun x s1 => xb (ev ft cl F S b 0 s1) fun y s2 => some (0, [if xcmp i.toNat x y then 1 else 0], s2)
    | 23 => xb (ev ft cl F S a 0 s) fun x s1 => if x = 1 then ev ft cl F S b 0 s1 else some (0, [0], s1)
    | 24 => xb (ev ft cl F S a 0 s) fun x s1 => if x = 1 then some (0, [1], s1) else ev ft cl F S b 0 s1
    | 25 => xb (ev ft cl F S a 0 s) fun x s1 => some (0, [if x = 1 then 0 else 1], s1)
    | 27 => xb (ev ft cl F S a 0 s) fun x s1 => if x = 1 then (match ev ft cl F S b 0 s1 with
      | some (0, _, _) => none
      | r => r) else some (0, [], s1)
    | 30 => some (0, [], s)
    | 31 => xq (ev ft cl F S a 0 s) fun s1 => ev ft cl F S b 0 s1
    | 32 => xb (ev ft cl F S b 0 s) fun x s1 => if i.toNat / 4 + i.toNat % 4 % 2 < s1.1.length then some (0, [], (lset s1.1 (i.toNat / 4) (i.toNat % 4) x, s1.2)) else none
    | 33 => match s.1[i.toNat / 65536]? with
      | some (0, n) => some (0, [], (lset s.1 (i.toNat / 65536) 0 (w32 (n + (i % 65536 - 32768))), s.2))
      | _ => none
    | 34 => xb (ev ft cl F S a 0 s) fun x s1 => xb (ev ft cl F S b 0 s1) fun y s2 => match xob s2.2 (i.toNat / 1000) x with
      | some p => if S ≤ p ∧ xfit (ft (i.toNat / 1000) (i.toNat % 1000)) y = true then some (0, [], (s2.1, hput s2.2 p (i.toNat % 1000) y)) else none
      | none => none
    | 36 => match ev ft cl F S a 0 s with
      | some (0, [], s1) => some (0, [], s1)
      | _ => none
    | 37 => xb (ev ft cl F S a 0 s) fun _ s1 => some (0, [], s1)
    | 38 => xb (ev ft cl F S a 0 s) fun x s1 => if x = 1 then ev ft cl F S b 0 s1 else some (0, [], s1)
    | 42 => xloop (fun t => some (0, [1], t)) (fun t => ev ft cl F S b 0 t) (fun t => some (0, [], t)) F s
    | 43 => xdo (fun t => ev ft cl F S a 0 t) (fun t => ev ft cl F S b 0 t) F s
    | 45 => some (1, [], s)
    | 46 => some (2, [], s)
    | 47 => xb (ev ft cl F S b 0 s) fun x s1 => some (3, [x], s1)
    | 48 => some (3, [], s)
    | 50 => match g with
      | 0 => (match ev ft cl F S a 0 s with
        | some (0, _, _) => none
        | r => r)
      | g + 1 => ev ft cl F S b g s
    | 51 => match g with
      | 0 => xq (ev ft cl F S a 0 s) fun s1 => ev ft cl F S b 0 s1
      | g + 1 => ev ft cl F S b g s
    | 52 => some (0, [], s)
    | 54 => xb (ev ft cl F S a 0 s) fun x s1 => match xob s1.2 (i.toNat % 1000000 / 1000) x with
      | some p => xb (ev ft cl F S b 0 s1) fun y s2 => match xbin (i.toNat / 1000000) (s1.2.2.2.2 p (i.toNat % 1000)) y, xob s2.2 (i.toNat % 1000000 / 1000) x with
        | some z, some _ => if S ≤ p then some (0, [], (s2.1, hput s2.2 p (i.toNat % 1000) z)) else none
        | _, _ => none
      | none => none
    | 56 => match s.1[0]? with
      | some (2, n) => if 0 ≤ n then some (0, [], s) else none
      | _ => none
    | 57 => some (0, [], s)
    | 58 => xb (ev ft cl F S a 0 s) fun x s1 => xa (ev ft cl F S b 0 s1) fun vs s2 => some (0, x :: vs, s2)
    | 59 => xa (ev ft cl F S b 0 s) fun vs s1 => match vs with
      | [src, sp, dst, dp, n] => match xcopy S s1.2 src sp dst dp n with
        | some h => some (0, [], (s1.1, h))
        | none => none
      | _ => none
    | 60 => xa (ev ft cl F S b 0 s) fun vs s1 => match vs with
      | [src, sp, dst, dp, n] => match xcopyB S s1.2 src sp dst dp n with
        | some h => some (0, [], (s1.1, h))
        | none => none
      | _ => none
    | _ => none
  | _ => fun _ _ => none
def xargs : List Nat → List Int → xL
  | t :: ts, v :: vs => if t = 1 then (1, v) :: (9, 0) :: xargs ts vs else (t, v) :: xargs ts vs
  | _, _ => []
/-- the methods, by their numbers: how many words of locals, the types of the arguments, the receiver's class (and 1; 0 where none is asked), what it returns (9 nothing), the body -/
abbrev xM : Type := Nat → Option (Nat × List Nat × Nat × Nat × xT)
def xrecv (h : xH) (rc : Nat) (vs : List Int) : Bool := match rc, vs with
  | 0, _ => true
  | c + 1, v :: _ => (xob h c v).isSome
  | _, _ => false
/-- may a method of this kind return these -/
def xret (rt : Nat) (r : List Int) : Bool := match rt, r with
  | 9, [] => true
  | 9, _ => false
  | 3, [n] => decide (n = 0 ∨ n = 1)
  | 4, [n] => decide (-128 ≤ n ∧ n ≤ 127)
  | 5, [n] => decide (0 ≤ n ∧ n ≤ 65535)
  | 0, [_] => true
  | 1, [_] => true
  | 2, [_] => true
  | _, _ => false
def xcall (ft : xF) (mt : xM) (F S : Nat) : Nat → Nat → List Int → xH → Option (List Int × xH)
  | 0, _, _, _ => none
  | d + 1, m, vs, h => match mt m with
    | some (nL, ts, rc, rt, t) => if vs.length = ts.length ∧ xrecv h rc vs = true then (match ev ft (xcall ft mt F S d) F S t 0 (xargs ts vs ++ List.replicate (nL - (xargs ts vs).length) (9, 0), h) with
      | some (3, r, s) => if xret rt r then some (r, s.2) else none
      | _ => none) else none
    | none => none
