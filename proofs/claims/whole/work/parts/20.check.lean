/-! THE CHECK: the bytes at a place do what a tree says. cd the decoded code, pl the pool (own class, index: tag, number), mt the methods (kind 0 static 1 virtual 2 special, argument types, return type). -/
abbrev xC : Type := Nat → Option (Instr × Nat)
abbrev xPl : Type := Nat → Nat → Option (Nat × Int)
abbrev xMk : Type := Nat → Option (Nat × List Nat × Nat)
def nrm (cd : xC) : Nat → Nat → Nat
  | 0, pc => pc
  | n + 1, pc => match cd pc with
    | some (.goto off, 3) => if 0 ≤ (pc : Int) + off then nrm cd n ((pc : Int) + off).toNat else pc
    | _ => pc
def eqv (cd : xC) (p q : Nat) : Bool := nrm cd 9 p == nrm cd 9 q
/-- the type that a tree's value has on the stack -/
def rty (r : Nat) : Nat := match r with
  | 1 => 1
  | 2 => 2
  | 9 => 9
  | _ => 0
def tyT (ft : xF) (mt : xMk) : xT → Nat
  | .group (.tag k (.nest _ (.append _ (.append b _)))) _ => match k with
    | 9 => tyT ft mt b
    | _ => 0
  | .tag k (.nest i (.append _ _)) => match k with
    | 1 => 1
    | 2 => i.toNat % 4
    | 3 => if i.toNat < 11 then 0 else 1
    | 4 => if i.toNat = 1 then 1 else 0
    | 5 => rty (ft (i.toNat / 1000) (i.toNat % 1000))
    | 6 => if i.toNat = 1 then 1 else 0
    | 8 => match mt i.toNat with
      | some (_, _, r) => rty r
      | none => 9
    | 10 => 2
    | 12 => 2
    | 13 => 2
    | 16 => 2
    | 17 => 2
    | _ => 0
  | _ => 9
def tyA (ft : xF) (mt : xMk) : xT → List Nat
  | .tag 58 (.nest _ (.append a b)) => tyT ft mt a :: tyA ft mt b
  | _ => []
def cat (t : Nat) : Nat := if t = 1 then 2 else if t = 9 then 0 else 1
def opI (op : Nat) : Instr := match op with
  | 0 => .iadd
  | 1 => .isub
  | 2 => .imul
  | 3 => .idiv
  | 4 => .irem
  | 5 => .iand
  | 6 => .ior
  | 7 => .ixor
  | 8 => .ishl
  | 9 => .ishr
  | 10 => .iushr
  | 11 => .ladd
  | _ => .lmul
def unI (op : Nat) : Instr := match op with
  | 0 => .ineg
  | 1 => .i2l
  | 2 => .l2i
  | 3 => .i2b
  | 4 => .i2c
  | _ => .i2s
def cmI (op : Nat) : Jvm.ClassFile.Cond := match op with
  | 0 => .eq
  | 1 => .ne
  | 2 => .lt
  | 3 => .ge
  | 4 => .gt
  | _ => .le
def neg (op : Nat) : Nat := match op with
  | 0 => 1
  | 1 => 0
  | 2 => 3
  | 3 => 2
  | 4 => 5
  | _ => 4
/-- a number of the code's own -/
def ckI (cd : xC) (pl : xPl) (own pc : Nat) (i : Int) : Option Nat := match cd pc with
  | some (.iconst n, 1) => if (Int32.ofInt n).toInt = i then some (pc + 1) else none
  | some (.bipush n, 2) => if (Int8.ofInt n).toInt32.toInt = i then some (pc + 2) else none
  | some (.sipush n, 3) => if (Int16.ofInt n).toInt32.toInt = i then some (pc + 3) else none
  | some (.ldc k, 2) => if pl own k = some (0, i) then some (pc + 2) else none
  | some (.ldc_w k, 3) => if pl own k = some (0, i) then some (pc + 3) else none
  | _ => none
def ckLd (cd : xC) (pc t j : Nat) : Option Nat := match cd pc with
  | some (.iload_n n, 1) => if t = 0 ∧ n.val = j then some (pc + 1) else none
  | some (.iload n, 2) => if t = 0 ∧ n = j then some (pc + 2) else none
  | some (.lload_n n, 1) => if t = 1 ∧ n.val = j then some (pc + 1) else none
  | some (.lload n, 2) => if t = 1 ∧ n = j then some (pc + 2) else none
  | some (.aload_n n, 1) => if t = 2 ∧ n.val = j then some (pc + 1) else none
  | some (.aload n, 2) => if t = 2 ∧ n = j then some (pc + 2) else none
  | _ => none
def ckSt (cd : xC) (pc t j : Nat) : Option Nat := match cd pc with
  | some (.istore_n n, 1) => if t = 0 ∧ n.val = j then some (pc + 1) else none
  | some (.istore n, 2) => if t = 0 ∧ n = j then some (pc + 2) else none
  | some (.lstore_n n, 1) => if t = 1 ∧ n.val = j then some (pc + 1) else none
  | some (.lstore n, 2) => if t = 1 ∧ n = j then some (pc + 2) else none
  | some (.astore_n n, 1) => if t = 2 ∧ n.val = j then some (pc + 1) else none
  | some (.astore n, 2) => if t = 2 ∧ n = j then some (pc + 2) else none
  | _ => none
/-- an instruction of its length -/
def ckO (cd : xC) (pc : Nat) (o : Instr) (n : Nat) : Option Nat := match cd pc with
  | some (o', n') => if o' = o ∧ n' = n then some (pc + n) else none
  | none => none
def ckF (cd : xC) (pl : xPl) (own pc : Nat) (put : Bool) (i : Nat) : Option Nat := match cd pc with
  | some (.getfield k, 3) => if put = false ∧ pl own k = some (3, (i : Int)) then some (pc + 3) else none
  | some (.putfield k, 3) => if put = true ∧ pl own k = some (3, (i : Int)) then some (pc + 3) else none
  | _ => none
def ckV (cd : xC) (pl : xPl) (own pc : Nat) (kind m : Nat) : Option Nat := match cd pc with
  | some (.invokestatic k, 3) => if kind = 0 ∧ pl own k = some (6, (m : Int)) then some (pc + 3) else none
  | some (.invokevirtual k, 3) => if kind = 1 ∧ pl own k = some (6, (m : Int)) then some (pc + 3) else none
  | some (.invokespecial k, 3) => if kind = 2 ∧ pl own k = some (6, (m : Int)) then some (pc + 3) else none
  | _ => none
/-- where a test goes on: when it holds, when not -/
def ckB (cd : xC) (pc : Nat) (zero : Bool) (op : Nat) : Option (Nat × Nat) := match cd pc with
  | some (.if_icmp c off, 3) => if zero = true ∨ (pc : Int) + off < 0 then none else if c = cmI op then some (((pc : Int) + off).toNat, pc + 3) else if c = cmI (neg op) then some (pc + 3, ((pc : Int) + off).toNat) else none
  | some (.ifCond c off, 3) => if zero = false ∨ (pc : Int) + off < 0 then none else if c = cmI op then some (((pc : Int) + off).toNat, pc + 3) else if c = cmI (neg op) then some (pc + 3, ((pc : Int) + off).toNat) else none
  | _ => none
def aldI (kd : Nat) : Instr := match kd with
  | 0 => .iaload
  | 1 => .laload
  | _ => .baload
def astI (kd : Nat) : Instr := match kd with
  | 0 => .iastore
  | 1 => .lastore
  | _ => .bastore
def newI (kd : Nat) : Instr := match kd with
  | 0 => .newarray .int
  | 1 => .newarray .long
  | 2 => .newarray .byte
  | _ => .newarray .boolean
def gst : xT → List Nat
  | .tag 50 (.nest i (.append _ b)) => i.toNat :: gst b
  | .tag 51 (.nest i (.append _ b)) => i.toNat :: gst b
  | .tag 52 (.nest i _) => [i.toNat]
  | _ => []
/-- a switch's table: every pair's place is its group's, and the default's -/
def ckW (cd : xC) (pc : Nat) (tb : List (Int × Nat)) (d : Nat) (st : List Nat) : Bool := match cd pc with
  | some (.tableswitch dflt lo hi offs, _) => decide (0 ≤ (pc : Int) + dflt) && (st[d]? == some ((pc : Int) + dflt).toNat) && decide (hi = lo + (tb.length : Int) - 1) && decide (offs.size = tb.length) &&
    (List.range tb.length).all fun j => match tb[j]?, offs[j]? with
      | some (v, g), some o => decide (v = lo + (j : Int)) && decide (0 ≤ (pc : Int) + o) && (st[g]? == some ((pc : Int) + o).toNat)
      | _, _ => false
  | some (.lookupswitch dflt ps, _) => decide (0 ≤ (pc : Int) + dflt) && (st[d]? == some ((pc : Int) + dflt).toNat) && decide (ps.size = tb.length) && ((ps.toList.zip (ps.toList.drop 1)).all fun (a, b) => a.1 < b.1) &&
    (List.range tb.length).all fun j => match tb[j]?, ps[j]? with
      | some (v, g), some (w, o) => decide (v = w) && decide (0 ≤ (pc : Int) + o) && (st[g]? == some ((pc : Int) + o).toNat)
      | _, _ => false
  | _ => false
/-- the check itself: own the class, ini whether it is a constructor, rt what the method returns; brk, cnt where break and continue go; dep how many words lie below on the stack -/
def ck (ft : xF) (fn : Nat → Nat → Bool) (cd : xC) (pl : xPl) (mt : xMk) (own : Nat) (ini : Bool) (rt : Nat) : xT → Nat → Nat → Nat → Nat → Option (Nat × Nat)
  | .group (.tag k (.nest i (.append a (.append b c)))) _ => fun pc brk cnt dep => match k with
    | 9 => match ck ft fn cd pl mt own ini rt a pc brk cnt dep with
      | some (t, f) => match ck ft fn cd pl mt own ini rt b t brk cnt dep, ck ft fn cd pl mt own ini rt c f brk cnt dep with
        | some (p1, _), some (p2, _) => if eqv cd p1 p2 && (tyT ft mt b == tyT ft mt c) && (tyT ft mt b != 9) then some (p2, 0) else none
        | _, _ => none
      | none => none
    | 35 => match ck ft fn cd pl mt own ini rt a pc brk cnt dep with
      | some (p1, _) => match ck ft fn cd pl mt own ini rt b p1 brk cnt (dep + 1) with
        | some (p2, _) => match ck ft fn cd pl mt own ini rt c p2 brk cnt (dep + 2) with
          | some (p3, _) => if tyT ft mt a = 2 ∧ tyT ft mt b = 0 ∧ tyT ft mt c = (if i.toNat = 1 then 1 else 0) ∧ i.toNat < 4 then (ckO cd p3 (astI i.toNat) 1).map (·, 0) else none
          | none => none
        | none => none
      | none => none
    | 39 => match ck ft fn cd pl mt own ini rt a pc brk cnt dep with
      | some (t, f) => match ck ft fn cd pl mt own ini rt b t brk cnt dep, ck ft fn cd pl mt own ini rt c f brk cnt dep with
        | some (p1, _), some (p2, _) => if eqv cd p1 p2 then some (p2, 0) else none
        | _, _ => none
      | none => none
    | 40 => match ck ft fn cd pl mt own ini rt a pc brk cnt dep with
      | some (t, f) => match ck ft fn cd pl mt own ini rt b t brk cnt dep, ck ft fn cd pl mt own ini rt c f brk cnt dep with
        | some (_, _), some (p2, _) => some (p2, 0)
        | _, _ => none
      | none => none
    | 28 => match ck ft fn cd pl mt own ini rt a pc brk cnt dep with
      | some (t, f) => match ck ft fn cd pl mt own ini rt b t brk cnt dep, ck ft fn cd pl mt own ini rt c f brk cnt dep with
        | some (p1, _), some (_, _) => some (p1, 0)
        | _, _ => none
      | none => none
    | 41 => match ck ft fn cd pl mt own ini rt a pc brk cnt dep with
      | some (t, f) => match ck ft fn cd pl mt own ini rt b t f i.toNat dep with
        | some (p1, _) => match ck ft fn cd pl mt own ini rt c i.toNat brk cnt dep with
          | some (p2, _) => if eqv cd p1 i.toNat && eqv cd p2 pc then some (f, 0) else none
          | none => none
        | none => none
      | none => none
    | 49 => match ck ft fn cd pl mt own ini rt a pc brk cnt dep with
      | some (p1, _) => match ck ft fn cd pl mt own ini rt c p1 ((gst c).getLast?.getD 0) cnt dep with
        | some (_, q) => if ckW cd p1 (xtb b) i.toNat (gst c) = true ∧ tyT ft mt a = 0 ∧ (gst c).getLast? = some q then some (q, 0) else none
        | none => none
      | none => none
    | 55 => match ck ft fn cd pl mt own ini rt a pc brk cnt dep with
      | some (p1, _) => match ck ft fn cd pl mt own ini rt b p1 brk cnt (dep + 1) with
        | some (p2, _) => match (ckO cd p2 .dup2 1).bind fun p3 => (ckO cd p3 .iaload 1) with
          | some p4 => match ck ft fn cd pl mt own ini rt c p4 brk cnt (dep + 3) with
            | some (p5, _) => if tyT ft mt a = 2 ∧ tyT ft mt b = 0 ∧ tyT ft mt c = 0 ∧ i.toNat < 8 then ((ckO cd p5 (opI i.toNat) 1).bind fun p6 => ckO cd p6 .iastore 1).map (·, 0) else none
            | none => none
          | none => none
        | none => none
      | none => none
    | _ => none
  | .tag k (.nest i (.append a b)) => fun pc brk cnt dep => match k with
    | 0 => (ckI cd pl own pc i).map (·, 0)
    | 1 => match cd pc with
      | some (.lconst n, 1) => if (Int64.ofNat n.val).toInt = i then some (pc + 1, 0) else none
      | some (.ldc2_w q, 3) => if pl own q = some (1, i) then some (pc + 3, 0) else none
      | _ => none
    | 2 => (ckLd cd pc (i.toNat % 4) (i.toNat / 4)).map (·, 0)
    | 3 => match ck ft fn cd pl mt own ini rt a pc brk cnt dep with
      | some (p1, _) => match ck ft fn cd pl mt own ini rt b p1 brk cnt (dep + cat (tyT ft mt a)) with
        | some (p2, _) => if i.toNat < 13 ∧ tyT ft mt a = (if i.toNat < 11 then 0 else 1) ∧ tyT ft mt b = (if i.toNat < 11 then 0 else 1) then (ckO cd p2 (opI i.toNat) 1).map (·, 0) else none
        | none => none
      | none => none
    | 4 => match ck ft fn cd pl mt own ini rt a pc brk cnt dep with
      | some (p1, _) => if i.toNat < 6 ∧ tyT ft mt a = (if i.toNat = 2 then 1 else 0) then (ckO cd p1 (unI i.toNat) 1).map (·, 0) else none
      | none => none
    | 5 => match ck ft fn cd pl mt own ini rt a pc brk cnt dep with
      | some (p1, _) => if tyT ft mt a = 2 ∧ (i.toNat / 1000 = 0 → i.toNat % 1000 < 2) then (ckF cd pl own p1 false i.toNat).map (·, 0) else none
      | none => none
    | 6 => match ck ft fn cd pl mt own ini rt a pc brk cnt dep with
      | some (p1, _) => match ck ft fn cd pl mt own ini rt b p1 brk cnt (dep + 1) with
        | some (p2, _) => if tyT ft mt a = 2 ∧ tyT ft mt b = 0 ∧ i.toNat < 4 then (ckO cd p2 (aldI i.toNat) 1).map (·, 0) else none
        | none => none
      | none => none
    | 7 => match ck ft fn cd pl mt own ini rt a pc brk cnt dep with
      | some (p1, _) => if tyT ft mt a = 2 ∧ i.toNat < 4 then (ckO cd p1 .arraylength 1).map (·, 0) else none
      | none => none
    | 8 => match ck ft fn cd pl mt own ini rt b pc brk cnt dep, mt i.toNat with
      | some (p1, _), some (kind, ts, _) => if tyA ft mt b = ts ∧ dep ≤ 24 ∧ kind < 2 then (ckV cd pl own p1 kind i.toNat).map (·, 0) else none
      | _, _ => none
    | 10 => match cd pc with
      | some (.new q, 3) => if pl own q = some (7, ((i.toNat / 1000 : Nat) : Int)) then (match (ckO cd (pc + 3) .dup 1).bind fun p1 => ck ft fn cd pl mt own ini rt b p1 brk cnt (dep + 2) with
        | some (p2, _) => (match mt (i.toNat % 1000) with
          | some (2, 2 :: ts, 9) => if tyA ft mt b = ts ∧ dep ≤ 20 then (ckV cd pl own p2 2 (i.toNat % 1000)).map (·, 0) else none
          | _ => none)
        | none => none) else none
      | _ => none
    | 12 => match ck ft fn cd pl mt own ini rt a pc brk cnt dep with
      | some (p1, _) => if tyT ft mt a = 0 ∧ i.toNat < 4 then (ckO cd p1 (newI i.toNat) 2).map (·, 0) else none
      | none => none
    | 13 => match (ckI cd pl own pc ((i.toNat % 1000 : Nat) : Int)).bind fun p1 => ckO cd p1 (newI (i.toNat / 1000)) 2 with
      | some p2 => if i.toNat / 1000 = 1 then ck ft fn cd pl mt own ini rt b p2 brk cnt dep else none
      | none => none
    | 14 => match (ckO cd pc .dup 1).bind fun p1 => ckI cd pl own p1 i with
      | some p2 => match ck ft fn cd pl mt own ini rt a p2 brk cnt (dep + 3) with
        | some (p3, _) => if tyT ft mt a = 1 then (match ckO cd p3 .lastore 1 with
          | some p4 => ck ft fn cd pl mt own ini rt b p4 brk cnt dep
          | none => none) else none
        | none => none
      | none => none
    | 16 => match cd pc with
      | some (.getstatic q, 3) => if pl own q = some (5, i) then some (pc + 3, 0) else none
      | _ => none
    | 17 => match cd pc with
      | some (.ldc q, 2) => if pl own q = some (2, i) then some (pc + 2, 0) else none
      | some (.ldc_w q, 3) => if pl own q = some (2, i) then some (pc + 3, 0) else none
      | _ => none
    | 18 => match cd pc with
      | some (.getstatic q, 3) => if pl own q = some (4, i) then some (pc + 3, 0) else none
      | _ => none
    | 20 => match ck ft fn cd pl mt own ini rt a pc brk cnt dep with
      | some (p1, _) => match ck ft fn cd pl mt own ini rt b p1 brk cnt (dep + 1) with
        | some (p2, _) => if tyT ft mt a = 0 ∧ tyT ft mt b = 0 ∧ i.toNat < 6 then ckB cd p2 false i.toNat else none
        | none => none
      | none => none
    | 21 => match ck ft fn cd pl mt own ini rt a pc brk cnt dep with
      | some (p1, _) => if tyT ft mt a = 0 ∧ i.toNat < 6 then ckB cd p1 true i.toNat else none
      | none => none
    | 22 => match ck ft fn cd pl mt own ini rt a pc brk cnt dep with
      | some (p1, _) => match ck ft fn cd pl mt own ini rt b p1 brk cnt (dep + 2) with
        | some (p2, _) => if tyT ft mt a = 1 ∧ tyT ft mt b = 1 ∧ i.toNat < 6 then (ckO cd p2 .lcmp 1).bind fun p3 => ckB cd p3 true i.toNat else none
        | none => none
      | none => none
    | 23 => match ck ft fn cd pl mt own ini rt a pc brk cnt dep with
      | some (t, f) => match ck ft fn cd pl mt own ini rt b t brk cnt dep with
        | some (t2, f2) => if eqv cd f f2 then some (t2, f2) else none
        | none => none
      | none => none
    | 24 => match ck ft fn cd pl mt own ini rt a pc brk cnt dep with
      | some (t, f) => match ck ft fn cd pl mt own ini rt b f brk cnt dep with
        | some (t2, f2) => if eqv cd t t2 then some (t2, f2) else none
        | none => none
      | none => none
    | 25 => match ck ft fn cd pl mt own ini rt a pc brk cnt dep with
      | some (t, f) => some (f, t)
      | none => none
    | 27 => match ck ft fn cd pl mt own ini rt a pc brk cnt dep with
      | some (t, f) => match ck ft fn cd pl mt own ini rt b t brk cnt dep with
        | some (_, _) => some (f, 0)
        | none => none
      | none => none
    | 30 => some (pc, 0)
    | 31 => match ck ft fn cd pl mt own ini rt a pc brk cnt dep with
      | some (p1, _) => ck ft fn cd pl mt own ini rt b p1 brk cnt dep
      | none => none
    | 32 => match ck ft fn cd pl mt own ini rt b pc brk cnt dep with
      | some (p1, _) => if tyT ft mt b = i.toNat % 4 then (ckSt cd p1 (i.toNat % 4) (i.toNat / 4)).map (·, 0) else none
      | none => none
    | 33 => match cd pc with
      | some (.iinc j n, 3) => if j = i.toNat / 65536 ∧ n = i % 65536 - 32768 ∧ 0 ≤ i then some (pc + 3, 0) else none
      | _ => none
    | 34 => match ck ft fn cd pl mt own ini rt a pc brk cnt dep with
      | some (p1, _) => match ck ft fn cd pl mt own ini rt b p1 brk cnt (dep + 1) with
        | some (p2, _) => if tyT ft mt a = 2 ∧ tyT ft mt b = rty (ft (i.toNat / 1000) (i.toNat % 1000)) ∧ (fn (i.toNat / 1000) (i.toNat % 1000) = true → ini = true ∧ i.toNat / 1000 = own) then (ckF cd pl own p2 true i.toNat).map (·, 0) else none
        | none => none
      | none => none
    | 36 => if tyT ft mt a = 9 then ck ft fn cd pl mt own ini rt a pc brk cnt dep else none
    | 37 => match ck ft fn cd pl mt own ini rt a pc brk cnt dep with
      | some (p1, _) => if tyT ft mt a = 0 ∨ tyT ft mt a = 2 then (ckO cd p1 .pop 1).map (·, 0) else none
      | none => none
    | 38 => match ck ft fn cd pl mt own ini rt a pc brk cnt dep with
      | some (t, f) => match ck ft fn cd pl mt own ini rt b t brk cnt dep with
        | some (p1, _) => if eqv cd p1 f then some (f, 0) else none
        | none => none
      | none => none
    | 42 => match ck ft fn cd pl mt own ini rt b pc i.toNat pc dep with
      | some (p1, _) => if eqv cd p1 pc then some (i.toNat, 0) else none
      | none => none
    | 43 => match ck ft fn cd pl mt own ini rt b i.toNat brk cnt dep with
      | some (t, f) => match ck ft fn cd pl mt own ini rt a pc f i.toNat dep with
        | some (p1, _) => if eqv cd p1 i.toNat && eqv cd t pc then some (f, 0) else none
        | none => none
      | none => none
    | 45 => if eqv cd pc brk then (match cd pc with
      | some (.goto _, _) => some (pc + 3, 0)
      | _ => some (pc, 0)) else none
    | 46 => if eqv cd pc cnt then (match cd pc with
      | some (.goto _, _) => some (pc + 3, 0)
      | _ => some (pc, 0)) else none
    | 47 => match ck ft fn cd pl mt own ini rt b pc brk cnt dep with
      | some (p1, _) => if tyT ft mt b = rty rt ∧ rt ≠ 9 ∧ dep = 0 then (ckO cd p1 (match rty rt with
        | 1 => .lreturn
        | 2 => .areturn
        | _ => .ireturn) 1).map (·, 0) else none
      | none => none
    | 48 => if rt = 9 ∧ dep = 0 then (ckO cd pc .return_ 1).map (·, 0) else none
    | 50 => match ck ft fn cd pl mt own ini rt a i.toNat brk cnt dep, ck ft fn cd pl mt own ini rt b pc brk cnt dep with
      | some (_, _), some (_, q) => some (i.toNat, q)
      | _, _ => none
    | 51 => match ck ft fn cd pl mt own ini rt a i.toNat brk cnt dep, ck ft fn cd pl mt own ini rt b pc brk cnt dep with
      | some (p1, _), some (st, q) => if eqv cd p1 st = true ∧ (gst b)[0]? = some st then some (i.toNat, q) else none
      | _, _ => none
    | 52 => if i.toNat < 100000 then some (i.toNat, i.toNat) else none
    | 53 => some (pc, 0)
    | 54 => match ck ft fn cd pl mt own ini rt a pc brk cnt dep with
      | some (p1, _) => match (ckO cd p1 .dup 1).bind fun p2 => ckF cd pl own p2 false (i.toNat % 1000000) with
        | some p3 => match ck ft fn cd pl mt own ini rt b p3 brk cnt (dep + 2) with
          | some (p4, _) => if tyT ft mt a = 2 ∧ tyT ft mt b = 0 ∧ ft (i.toNat % 1000000 / 1000) (i.toNat % 1000) = 0 ∧ fn (i.toNat % 1000000 / 1000) (i.toNat % 1000) = false ∧ i.toNat / 1000000 < 8 ∧ i.toNat % 1000000 / 1000 ≠ 0 then ((ckO cd p4 (opI (i.toNat / 1000000)) 1).bind fun p5 => ckF cd pl own p5 true (i.toNat % 1000000)).map (·, 0) else none
          | none => none
        | none => none
      | none => none
    | 56 => match (ckLd cd pc 2 0).bind cd with
      | some (.invokespecial q, 3) => if pl own q = some (8, 0) ∧ dep ≤ 24 then (ckLd cd pc 2 0).map fun p => (p + 3, 0) else none
      | _ => none
    | 57 => some (pc, 0)
    | 58 => match ck ft fn cd pl mt own ini rt a pc brk cnt dep with
      | some (p1, _) => if tyT ft mt a < 3 then ck ft fn cd pl mt own ini rt b p1 brk cnt (dep + cat (tyT ft mt a)) else none
      | none => none
    | 59 => match ck ft fn cd pl mt own ini rt b pc brk cnt dep with
      | some (p1, _) => if tyA ft mt b = [2, 0, 2, 0, 0] ∧ dep ≤ 24 then (match cd p1 with
        | some (.invokestatic q, 3) => if pl own q = some (9, 0) then some (p1 + 3, 0) else none
        | _ => none) else none
      | none => none
    | 60 => match ck ft fn cd pl mt own ini rt b pc brk cnt dep with
      | some (p1, _) => if tyA ft mt b = [2, 0, 2, 0, 0] ∧ dep ≤ 24 then (match cd p1 with
        | some (.invokestatic q, 3) => if pl own q = some (9, 0) then some (p1 + 3, 0) else none
        | _ => none) else none
      | none => none
    | _ => none
  | _ => fun _ _ _ _ => none
