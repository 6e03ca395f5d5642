/-! ROWS: arithmetic and tests -/
theorem toInt_rem (x y : Int32) : (x - x / y * y).toInt = x.toInt.tmod y.toInt := by
  have h : x.toInt - x.toInt.tdiv y.toInt * y.toInt = x.toInt.tmod y.toInt := by rw [Int.tmod_def, Int.mul_comm]
  have h2 : (x.toInt.tmod y.toInt).bmod (2 ^ 32) = x.toInt.tmod y.toInt := by
    rw [← Int32.toInt_mod]
    exact Int32.toInt_bmod (x % y)
  rw [Int32.toInt_sub, Int32.toInt_mul, Int32.toInt_div, Int.bmod_mul_bmod, Int.sub_bmod_bmod, h, h2]
theorem toInt_i2c (y : Int32) : (y.toUInt32 % 65536).toInt32.toInt = y.toInt % 65536 := by
  rw [pk_char, nI_toInt (by omega)]
  show _ = y.toBitVec.toInt % 65536
  rw [BitVec.toInt_eq_toNat_cond]
  split <;> omega
section Rows4
variable {p : Program} {l : Launch} {e : Env} {R : Room} {s : State} {m : MethodId} {args : Array Value} {below : List Frame} {meth : Method} {c : Code} {Q : State → Prop}
variable {G : xG} {st : xStt} {H0 : Heap} {hE : xH} {cd : xC} {cc : ByteArray} {pc pc' : Nat} {x : xS} {sa : xL}
theorem ckO_e {o : Instr} {n : Nat} (h : ckO cd pc o n = some pc') : cd pc = some (o, n) ∧ pc' = pc + n := by
  unfold ckO at h
  split at h
  · rename_i o' n' heq
    split at h
    · rename_i hv
      obtain ⟨rfl, rfl⟩ := hv
      cases h
      exact ⟨heq, rfl⟩
    · cases h
  · cases h
theorem at_Bin (hx : p.tables.exec = Jvm.exec) (hb : c.code = cc) (hcd : CdOK cd cc) {op : Nat} {a b z : Int} (hop : op < 13) (hz : xbin op a b = some z) (h : ckO cd pc (opI op) 1 = some pc') (hk : At p l e R s m args below meth c Q G st H0 hE cd pc' x ((if op < 11 then 0 else 1, z) :: sa)) : At p l e R s m args below meth c Q G st H0 hE cd pc x ((if op < 11 then 0 else 1, b) :: (if op < 11 then 0 else 1, a) :: sa) := by
  obtain ⟨hc, rfl⟩ := ckO_e h
  have hng : ∀ o, opI op ≠ .goto o := by
    intro o
    unfold opI
    split <;> (intro q; cases q)
  refine At.row hx hb hcd hc hng hk fun H ls locs vs h1 h2 h3 h4 k => ?_
  obtain ⟨v1, w1, rfl, r1, h5⟩ := SR_cons h4
  obtain ⟨v2, w2, rfl, r2, h6⟩ := SR_cons h5
  have hd := hcd _ _ _ hc
  clear hk h4 h5
  match op, hop with
  | 0, _ =>
    obtain ⟨y, rfl, ey⟩ := r1
    obtain ⟨w, rfl, ew⟩ := r2
    replace ey : b = y.toInt := ey
    replace ew : a = w.toInt := ew
    subst ey
    subst ew
    replace hz := Option.some.inj hz
    exact lv_iadd hx hb hd (k _ _ _ _ h1 h2 h3 ⟨⟨_, rfl, by rw [← hz, Int32.toInt_add]; rfl⟩, h6⟩)
  | 1, _ =>
    obtain ⟨y, rfl, ey⟩ := r1
    obtain ⟨w, rfl, ew⟩ := r2
    replace ey : b = y.toInt := ey
    replace ew : a = w.toInt := ew
    subst ey
    subst ew
    replace hz := Option.some.inj hz
    exact lv_isub hx hb hd (k _ _ _ _ h1 h2 h3 ⟨⟨_, rfl, by rw [← hz, Int32.toInt_sub]; rfl⟩, h6⟩)
  | 2, _ =>
    obtain ⟨y, rfl, ey⟩ := r1
    obtain ⟨w, rfl, ew⟩ := r2
    replace ey : b = y.toInt := ey
    replace ew : a = w.toInt := ew
    subst ey
    subst ew
    replace hz := Option.some.inj hz
    exact lv_imul hx hb hd (k _ _ _ _ h1 h2 h3 ⟨⟨_, rfl, by rw [← hz, Int32.toInt_mul]; rfl⟩, h6⟩)
  | 3, _ =>
    obtain ⟨y, rfl, ey⟩ := r1
    obtain ⟨w, rfl, ew⟩ := r2
    replace ey : b = y.toInt := ey
    replace ew : a = w.toInt := ew
    subst ey
    subst ew
    have hy : ¬ y = 0 := by
      intro q
      subst q
      simp [xbin] at hz
    have hb0 : ¬ y.toInt = 0 := fun q => hy (Int32.toInt_inj.mp (by rw [q]; rfl))
    simp only [xbin, hb0, if_false] at hz
    exact lv_idiv hx hb hd hy (k _ _ _ _ h1 h2 h3 ⟨⟨_, rfl, by rw [← Option.some.inj hz, Int32.toInt_div]; rfl⟩, h6⟩)
  | 4, _ =>
    obtain ⟨y, rfl, ey⟩ := r1
    obtain ⟨w, rfl, ew⟩ := r2
    replace ey : b = y.toInt := ey
    replace ew : a = w.toInt := ew
    subst ey
    subst ew
    have hy : ¬ y = 0 := by
      intro q
      subst q
      simp [xbin] at hz
    have hb0 : ¬ y.toInt = 0 := fun q => hy (Int32.toInt_inj.mp (by rw [q]; rfl))
    simp only [xbin, hb0, if_false] at hz
    exact lv_irem hx hb hd hy (k _ _ _ _ h1 h2 h3 ⟨⟨_, rfl, by rw [← Option.some.inj hz, toInt_rem]⟩, h6⟩)
  | 5, _ =>
    obtain ⟨y, rfl, ey⟩ := r1
    obtain ⟨w, rfl, ew⟩ := r2
    replace ey : b = y.toInt := ey
    replace ew : a = w.toInt := ew
    subst ey
    subst ew
    replace hz := Option.some.inj hz
    exact lv_iand hx hb hd (k _ _ _ _ h1 h2 h3 ⟨⟨_, rfl, by rw [← hz]; simp only [i32o]⟩, h6⟩)
  | 6, _ =>
    obtain ⟨y, rfl, ey⟩ := r1
    obtain ⟨w, rfl, ew⟩ := r2
    replace ey : b = y.toInt := ey
    replace ew : a = w.toInt := ew
    subst ey
    subst ew
    replace hz := Option.some.inj hz
    exact lv_ior hx hb hd (k _ _ _ _ h1 h2 h3 ⟨⟨_, rfl, by rw [← hz]; simp only [i32o]⟩, h6⟩)
  | 7, _ =>
    obtain ⟨y, rfl, ey⟩ := r1
    obtain ⟨w, rfl, ew⟩ := r2
    replace ey : b = y.toInt := ey
    replace ew : a = w.toInt := ew
    subst ey
    subst ew
    replace hz := Option.some.inj hz
    exact lv_ixor hx hb hd (k _ _ _ _ h1 h2 h3 ⟨⟨_, rfl, by rw [← hz]; simp only [i32o]⟩, h6⟩)
  | 8, _ =>
    obtain ⟨y, rfl, ey⟩ := r1
    obtain ⟨w, rfl, ew⟩ := r2
    replace ey : b = y.toInt := ey
    replace ew : a = w.toInt := ew
    subst ey
    subst ew
    replace hz := Option.some.inj hz
    exact lv_ishl hx hb hd (k _ _ _ _ h1 h2 h3 ⟨⟨_, rfl, by rw [← hz]; simp only [i32o]⟩, h6⟩)
  | 9, _ =>
    obtain ⟨y, rfl, ey⟩ := r1
    obtain ⟨w, rfl, ew⟩ := r2
    replace ey : b = y.toInt := ey
    replace ew : a = w.toInt := ew
    subst ey
    subst ew
    replace hz := Option.some.inj hz
    exact lv_ishr hx hb hd (k _ _ _ _ h1 h2 h3 ⟨⟨_, rfl, by rw [← hz]; simp only [i32o]⟩, h6⟩)
  | 10, _ =>
    obtain ⟨y, rfl, ey⟩ := r1
    obtain ⟨w, rfl, ew⟩ := r2
    replace ey : b = y.toInt := ey
    replace ew : a = w.toInt := ew
    subst ey
    subst ew
    replace hz := Option.some.inj hz
    exact lv_iushr hx hb hd rfl (k _ _ _ _ h1 h2 h3 ⟨⟨_, rfl, by rw [← hz]; simp only [i32o]⟩, h6⟩)
  | 11, _ =>
    obtain ⟨y, rfl, ey⟩ := r1
    obtain ⟨w, rfl, ew⟩ := r2
    replace ey : b = y.toInt := ey
    replace ew : a = w.toInt := ew
    subst ey
    subst ew
    replace hz := Option.some.inj hz
    exact lv_ladd hx hb hd (k _ _ _ _ h1 h2 h3 ⟨⟨_, rfl, by rw [← hz, Int64.toInt_add]; rfl⟩, h6⟩)
  | 12, _ =>
    obtain ⟨y, rfl, ey⟩ := r1
    obtain ⟨w, rfl, ew⟩ := r2
    replace ey : b = y.toInt := ey
    replace ew : a = w.toInt := ew
    subst ey
    subst ew
    replace hz := Option.some.inj hz
    exact lv_lmul hx hb hd (k _ _ _ _ h1 h2 h3 ⟨⟨_, rfl, by rw [← hz, Int64.toInt_mul]; rfl⟩, h6⟩)
theorem at_Un (hx : p.tables.exec = Jvm.exec) (hb : c.code = cc) (hcd : CdOK cd cc) {op : Nat} {a z : Int} (hop : op < 6) (hz : xun op a = some z) (h : ckO cd pc (unI op) 1 = some pc') (hk : At p l e R s m args below meth c Q G st H0 hE cd pc' x ((if op = 1 then 1 else 0, z) :: sa)) : At p l e R s m args below meth c Q G st H0 hE cd pc x ((if op = 2 then 1 else 0, a) :: sa) := by
  obtain ⟨hc, rfl⟩ := ckO_e h
  have hng : ∀ o, unI op ≠ .goto o := by
    intro o
    unfold unI
    split <;> (intro q; cases q)
  refine At.row hx hb hcd hc hng hk fun H ls locs vs h1 h2 h3 h4 k => ?_
  obtain ⟨v1, w1, rfl, r1, h6⟩ := SR_cons h4
  have hd := hcd _ _ _ hc
  clear hk h4
  match op, hop with
  | 0, _ =>
    obtain ⟨y, rfl, ey⟩ := r1
    replace ey : a = y.toInt := ey
    subst ey
    replace hz := Option.some.inj hz
    exact lv_ineg hx hb hd (k _ _ _ _ h1 h2 h3 ⟨⟨_, rfl, by rw [← hz, Int32.toInt_neg]; rfl⟩, h6⟩)
  | 1, _ =>
    obtain ⟨y, rfl, ey⟩ := r1
    replace ey : a = y.toInt := ey
    subst ey
    replace hz := Option.some.inj hz
    exact lv_i2l hx hb hd rfl (k _ _ _ _ h1 h2 h3 ⟨⟨_, rfl, by rw [← hz, Int32.toInt_toInt64]⟩, h6⟩)
  | 2, _ =>
    obtain ⟨y, rfl, ey⟩ := r1
    replace ey : a = y.toInt := ey
    subst ey
    replace hz := Option.some.inj hz
    exact lv_l2i hx hb hd rfl (k _ _ _ _ h1 h2 h3 ⟨⟨_, rfl, by rw [← hz, Int64.toInt_toInt32]; rfl⟩, h6⟩)
  | 3, _ =>
    obtain ⟨y, rfl, ey⟩ := r1
    replace ey : a = y.toInt := ey
    subst ey
    replace hz := Option.some.inj hz
    exact lv_i2b hx hb hd rfl (k _ _ _ _ h1 h2 h3 ⟨⟨_, rfl, by rw [← hz, Int8.toInt_toInt32, Int32.toInt_toInt8]⟩, h6⟩)
  | 4, _ =>
    obtain ⟨y, rfl, ey⟩ := r1
    replace ey : a = y.toInt := ey
    subst ey
    replace hz := Option.some.inj hz
    exact lv_i2c hx hb hd rfl (k _ _ _ _ h1 h2 h3 ⟨⟨_, rfl, by rw [← hz, toInt_i2c]⟩, h6⟩)
  | 5, _ =>
    obtain ⟨y, rfl, ey⟩ := r1
    replace ey : a = y.toInt := ey
    subst ey
    replace hz := Option.some.inj hz
    exact lv_i2s hx hb hd rfl (k _ _ _ _ h1 h2 h3 ⟨⟨_, rfl, by rw [← hz, Int16.toInt_toInt32, Int32.toInt_toInt16]⟩, h6⟩)
def cnum (cn : Jvm.ClassFile.Cond) : Nat := match cn with
  | .eq => 0
  | .ne => 1
  | .lt => 2
  | .ge => 3
  | .gt => 4
  | .le => 5
theorem cnum_cmI {op : Nat} (h : op < 6) : cnum (cmI op) = op := by
  match op, h with
  | 0, _ => rfl
  | 1, _ => rfl
  | 2, _ => rfl
  | 3, _ => rfl
  | 4, _ => rfl
  | 5, _ => rfl
theorem neg_lt {op : Nat} (h : op < 6) : neg op < 6 := by
  match op, h with
  | 0, _ => decide
  | 1, _ => decide
  | 2, _ => decide
  | 3, _ => decide
  | 4, _ => decide
  | 5, _ => decide
theorem xcmp_neg {op : Nat} (h : op < 6) (a b : Int) : xcmp (neg op) a b = !xcmp op a b := by
  match op, h with
  | 0, _ => rfl
  | 1, _ => simp [xcmp, neg]
  | 2, _ => simp only [xcmp, neg]; by_cases q : a < b <;> simp [q] <;> omega
  | 3, _ => simp only [xcmp, neg]; by_cases q : b ≤ a <;> simp [q] <;> omega
  | 4, _ => simp only [xcmp, neg]; by_cases q : b < a <;> simp [q] <;> omega
  | 5, _ => simp only [xcmp, neg]; by_cases q : a ≤ b <;> simp [q] <;> omega
theorem W_icmp (hx : p.tables.exec = Jvm.exec) (hb : c.code = cc) {H : Heap} {locs : List Loc} {cells slots : Nat} {ls : Array Slot} {rest : List Value} {cn : Jvm.ClassFile.Cond} {a b : Int32} {off : Int} {tgt : Nat} (hd : decode cc pc = .ok (.if_icmp cn off, 3)) (ht : (pc : Int) + off = (tgt : Int))
    (k : W p l e R s m args below meth c H locs cells slots Q (F0 m (if xcmp (cnum cn) a.toInt b.toInt then tgt else pc + 3) ls rest)) : W p l e R s m args below meth c H locs cells slots Q (F0 m pc ls (.int b :: .int a :: rest)) := by
  cases cn with
  | eq => exact lv_icmp_eq hx hb hd ht (fun q => by simpa [cnum, xcmp, q] using k) (fun q => by simpa [cnum, xcmp, Int32.toInt_inj, q] using k)
  | ne => exact lv_icmp_ne hx hb hd ht (fun q => by simpa [cnum, xcmp, Int32.toInt_inj, q] using k) (fun q => by simpa [cnum, xcmp, q] using k)
  | lt => exact lv_icmp_lt hx hb hd ht (fun q => by have := Int32.lt_iff_toInt_lt.mp q; simpa [cnum, xcmp, this] using k) (fun q => by have : ¬ a.toInt < b.toInt := fun z => q (Int32.lt_iff_toInt_lt.mpr z); simpa [cnum, xcmp, this] using k)
  | ge => exact lv_icmp_ge hx hb hd ht (fun q => by have := Int32.le_iff_toInt_le.mp q; simpa [cnum, xcmp, this] using k) (fun q => by have : ¬ b.toInt ≤ a.toInt := fun z => q (Int32.le_iff_toInt_le.mpr z); simpa [cnum, xcmp, this] using k)
  | gt => exact lv_icmp_gt hx hb hd ht (fun q => by have := Int32.lt_iff_toInt_lt.mp q; simpa [cnum, xcmp, this] using k) (fun q => by have : ¬ b.toInt < a.toInt := fun z => q (Int32.lt_iff_toInt_lt.mpr z); simpa [cnum, xcmp, this] using k)
  | le => exact lv_icmp_le hx hb hd ht (fun q => by have := Int32.le_iff_toInt_le.mp q; simpa [cnum, xcmp, this] using k) (fun q => by have : ¬ a.toInt ≤ b.toInt := fun z => q (Int32.le_iff_toInt_le.mpr z); simpa [cnum, xcmp, this] using k)
theorem W_ifc (hx : p.tables.exec = Jvm.exec) (hb : c.code = cc) {H : Heap} {locs : List Loc} {cells slots : Nat} {ls : Array Slot} {rest : List Value} {cn : Jvm.ClassFile.Cond} {a : Int32} {off : Int} {tgt : Nat} (hd : decode cc pc = .ok (.ifCond cn off, 3)) (ht : (pc : Int) + off = (tgt : Int))
    (k : W p l e R s m args below meth c H locs cells slots Q (F0 m (if xcmp (cnum cn) a.toInt 0 then tgt else pc + 3) ls rest)) : W p l e R s m args below meth c H locs cells slots Q (F0 m pc ls (.int a :: rest)) := by
  have h0 : (0 : Int) = (0 : Int32).toInt := rfl
  rw [h0] at k
  cases cn with
  | eq => exact lv_if_eq hx hb hd ht (fun q => by simpa [cnum, xcmp, q] using k) (fun q => by simpa only [cnum, xcmp, Int32.toInt_inj, q, decide_false, Bool.false_eq_true, if_false] using k)
  | ne => exact lv_if_ne hx hb hd ht (fun q => by simpa only [cnum, xcmp, Int32.toInt_inj, q, decide_false, Bool.not_false, if_true] using k) (fun q => by simpa [cnum, xcmp, q] using k)
  | lt => exact lv_if_lt hx hb hd ht (fun q => by have := Int32.lt_iff_toInt_lt.mp q; simpa only [cnum, xcmp, this, decide_true, if_true] using k) (fun q => by have : ¬ a.toInt < (0 : Int32).toInt := fun z => q (Int32.lt_iff_toInt_lt.mpr z); simpa only [cnum, xcmp, this, decide_false, Bool.false_eq_true, if_false] using k)
  | ge => exact lv_if_ge hx hb hd ht (fun q => by have := Int32.le_iff_toInt_le.mp q; simpa only [cnum, xcmp, this, decide_true, if_true] using k) (fun q => by have : ¬ (0 : Int32).toInt ≤ a.toInt := fun z => q (Int32.le_iff_toInt_le.mpr z); simpa only [cnum, xcmp, this, decide_false, Bool.false_eq_true, if_false] using k)
  | gt => exact lv_if_gt hx hb hd ht (fun q => by have := Int32.lt_iff_toInt_lt.mp q; simpa only [cnum, xcmp, this, decide_true, if_true] using k) (fun q => by have : ¬ (0 : Int32).toInt < a.toInt := fun z => q (Int32.lt_iff_toInt_lt.mpr z); simpa only [cnum, xcmp, this, decide_false, Bool.false_eq_true, if_false] using k)
  | le => exact lv_if_le hx hb hd ht (fun q => by have := Int32.le_iff_toInt_le.mp q; simpa only [cnum, xcmp, this, decide_true, if_true] using k) (fun q => by have : ¬ a.toInt ≤ (0 : Int32).toInt := fun z => q (Int32.le_iff_toInt_le.mpr z); simpa only [cnum, xcmp, this, decide_false, Bool.false_eq_true, if_false] using k)
/-- the two ends of a test, by its sense -/
theorem ckB_e {z : Bool} {op t f : Nat} (hop : op < 6) (h : ckB cd pc z op = some (t, f)) : ∃ (cn : Jvm.ClassFile.Cond) (off : Int) (tgt : Nat), (pc : Int) + off = (tgt : Int) ∧ cd pc = some (if z then .ifCond cn off else .if_icmp cn off, 3) ∧ ∀ a b : Int, (if xcmp op a b then t else f) = (if xcmp (cnum cn) a b then tgt else pc + 3) := by
  have key : ∀ (cn : Jvm.ClassFile.Cond) (off : Int), (if z = !z ∨ (pc : Int) + off < 0 then none else if cn = cmI op then some (((pc : Int) + off).toNat, pc + 3) else if cn = cmI (neg op) then some (pc + 3, ((pc : Int) + off).toNat) else none) = some (t, f) → ∃ tgt : Nat, (pc : Int) + off = (tgt : Int) ∧ ∀ a b : Int, (if xcmp op a b then t else f) = (if xcmp (cnum cn) a b then tgt else pc + 3) := by
    intro cn off h
    split at h
    · cases h
    · rename_i hp
      have hp0 : 0 ≤ (pc : Int) + off := by
        have := fun q => hp (Or.inr q)
        omega
      refine ⟨((pc : Int) + off).toNat, by omega, fun a b => ?_⟩
      split at h
      · rename_i e1
        cases h
        rw [e1, cnum_cmI hop]
      · split at h
        · rename_i e2
          cases h
          rw [e2, cnum_cmI (neg_lt hop), xcmp_neg hop]
          cases xcmp op a b <;> rfl
        · cases h
  unfold ckB at h
  split at h
  · rename_i cn off heq
    cases z with
    | true => simp at h
    | false =>
      obtain ⟨tgt, h1, h2⟩ := key cn off (by simpa using h)
      exact ⟨cn, off, tgt, h1, heq, h2⟩
  · rename_i cn off heq
    cases z with
    | false => simp at h
    | true =>
      obtain ⟨tgt, h1, h2⟩ := key cn off (by simpa using h)
      exact ⟨cn, off, tgt, h1, heq, h2⟩
  · cases h
theorem at_B2 (hx : p.tables.exec = Jvm.exec) (hb : c.code = cc) (hcd : CdOK cd cc) {op t f : Nat} {a b : Int} (hop : op < 6) (h : ckB cd pc false op = some (t, f)) (hk : At p l e R s m args below meth c Q G st H0 hE cd (if xcmp op a b then t else f) x sa) : At p l e R s m args below meth c Q G st H0 hE cd pc x ((0, b) :: (0, a) :: sa) := by
  obtain ⟨cn, off, tgt, h1, h2, h3⟩ := ckB_e hop h
  rw [h3 a b] at hk
  refine At.row hx hb hcd h2 (fun _ => by intro q; cases q) hk fun H ls locs vs g1 g2 g3 g4 k => ?_
  obtain ⟨v1, w1, rfl, r1, g5⟩ := SR_cons g4
  obtain ⟨v2, w2, rfl, r2, g6⟩ := SR_cons g5
  obtain ⟨y, rfl, ey⟩ := r1
  obtain ⟨w, rfl, ew⟩ := r2
  replace ey : b = y.toInt := ey
  replace ew : a = w.toInt := ew
  have k := k H ls locs w2 g1 g2 g3 g6
  rw [ey, ew] at k
  exact W_icmp hx hb (hcd _ _ _ h2) h1 k
theorem at_B1 (hx : p.tables.exec = Jvm.exec) (hb : c.code = cc) (hcd : CdOK cd cc) {op t f : Nat} {a : Int} (hop : op < 6) (h : ckB cd pc true op = some (t, f)) (hk : At p l e R s m args below meth c Q G st H0 hE cd (if xcmp op a 0 then t else f) x sa) : At p l e R s m args below meth c Q G st H0 hE cd pc x ((0, a) :: sa) := by
  obtain ⟨cn, off, tgt, h1, h2, h3⟩ := ckB_e hop h
  rw [h3 a 0] at hk
  refine At.row hx hb hcd h2 (fun _ => by intro q; cases q) hk fun H ls locs vs g1 g2 g3 g4 k => ?_
  obtain ⟨v2, w2, rfl, r2, g6⟩ := SR_cons g4
  obtain ⟨w, rfl, ew⟩ := r2
  replace ew : a = w.toInt := ew
  have k := k H ls locs w2 g1 g2 g3 g6
  rw [ew] at k
  exact W_ifc hx hb (hcd _ _ _ h2) h1 k
theorem at_LC (hx : p.tables.exec = Jvm.exec) (hb : c.code = cc) (hcd : CdOK cd cc) {op t f : Nat} {a b : Int} (hop : op < 6) (hc : ckO cd pc .lcmp 1 = some pc') (h : ckB cd pc' true op = some (t, f)) (hk : At p l e R s m args below meth c Q G st H0 hE cd (if xcmp op a b then t else f) x sa) : At p l e R s m args below meth c Q G st H0 hE cd pc x ((1, b) :: (1, a) :: sa) := by
  obtain ⟨hc1, rfl⟩ := ckO_e hc
  have hk2 : At p l e R s m args below meth c Q G st H0 hE cd (pc + 1) x ((0, if b < a then 1 else if a = b then 0 else -1) :: sa) := by
    refine at_B1 hx hb hcd hop h ?_
    have : xcmp op (if b < a then 1 else if a = b then 0 else -1) 0 = xcmp op a b := by
      match op, hop with
      | 0, _ => simp only [xcmp]; congr 1; apply propext; split <;> (try split) <;> omega
      | 1, _ => simp only [xcmp]; congr 2; apply propext; split <;> (try split) <;> omega
      | 2, _ => simp only [xcmp]; congr 1; apply propext; split <;> (try split) <;> omega
      | 3, _ => simp only [xcmp]; congr 1; apply propext; split <;> (try split) <;> omega
      | 4, _ => simp only [xcmp]; congr 1; apply propext; split <;> (try split) <;> omega
      | 5, _ => simp only [xcmp]; congr 1; apply propext; split <;> (try split) <;> omega
    rw [this]
    exact hk
  refine At.row hx hb hcd hc1 (fun _ => by intro q; cases q) hk2 fun H ls locs vs g1 g2 g3 g4 k => ?_
  obtain ⟨v1, w1, rfl, r1, g5⟩ := SR_cons g4
  obtain ⟨v2, w2, rfl, r2, g6⟩ := SR_cons g5
  obtain ⟨y, rfl, ey⟩ := r1
  obtain ⟨w, rfl, ew⟩ := r2
  replace ey : b = y.toInt := ey
  replace ew : a = w.toInt := ew
  refine W.lcmp hx hb (hcd _ _ _ hc1) (k H ls locs _ g1 g2 g3 ⟨⟨_, rfl, ?_⟩, g6⟩)
  rw [ey, ew]
  show (if y.toInt < w.toInt then (1 : Int) else if w.toInt = y.toInt then 0 else -1) = (lg_cmp w y).toInt
  unfold lg_cmp
  by_cases q1 : y.toInt < w.toInt
  · have q2 : y < w := Int64.lt_iff_toInt_lt.mpr q1
    simp [q1, q2]
  · have q2 : ¬ y < w := fun z => q1 (Int64.lt_iff_toInt_lt.mp z)
    by_cases q3 : w.toInt = y.toInt
    · have q4 : w = y := Int64.toInt_inj.mp q3
      simp [q4]
    · have q4 : ¬ w = y := fun z => q3 (by rw [z])
      simp [q1, q2, q3, q4]
end Rows4
