/-! TREES AS FUNCTIONS on the second machine (a combinator a tag), and what they have to do with `ev` -/
abbrev tF : Type := Nat → tS → Option tR
abbrev tC : Type := List Int → Nat → tT → Option (List Int × Nat × tT)
def lg : xL → Nat → Option (Nat × Int)
  | [], _ => none
  | x :: _, 0 => some x
  | _ :: r, n + 1 => lg r n
theorem lg_eq : ∀ (l : xL) (j : Nat), lg l j = l[j]?
  | [], _ => by simp [lg]
  | x :: r, 0 => by simp [lg]
  | x :: r, n + 1 => by simp [lg, lg_eq r n]
/-- a field, an element -/
def tfld (n : Nat) (T : tT) (c : Nat) (x : Int) (k : Nat) : Option Int := match x with
  | .ofNat p => bif Nat.blt p n then (bif Nat.blt p 50 then (bif Nat.beq p 0 then none else bif Nat.beq (stK0 p) (10 + c) then some (stM0 (fun _ => 0) p k) else none) else match og T (p - 50) with
    | some (kd, _, cc) => bif Nat.beq kd (10 + c) then some (cg kd cc k) else none
    | none => none) else none
  | .negSucc _ => none
def tael (n : Nat) (T : tT) (kd : Nat) (x y : Int) : Option Int := match x, y with
  | .ofNat p, .ofNat q => bif Nat.blt p n then (bif Nat.blt p 50 then (bif Nat.beq p 0 then none else bif Nat.beq (stK0 p) kd then (bif Nat.blt q (stL0 0 p) then some (stM0 (fun _ => 0) p q) else none) else none) else match og T (p - 50) with
    | some (kd', ln, cc) => bif Nat.beq kd' kd then (bif Nat.blt q ln then some (cg kd' cc q) else none) else none
    | none => none) else none
  | _, _ => none
section TFs
variable {L : Nat} {xs : Nat → Int32} {h : xH} {n : Nat} {T : tT}
theorem tfld_ok {c k : Nat} {x v : Int} (H : Rh L xs h n T) (e : tfld n T c x k = some v) : ∃ p, xob h c x = some p ∧ h.2.2.2 p k = v := by
  unfold tfld at e
  split at e
  · rename_i p
    cases hb : Nat.blt p n with
    | false => rw [hb] at e; cases e
    | true =>
      rw [hb] at e
      have hpn : p < n := Nat.le_of_ble_eq_true hb
      have fin : p ≠ 0 → tK T p = 10 + c → tM T p k = v → ∃ q, xob h c (Int.ofNat p) = some q ∧ h.2.2.2 q k = v := by
        intro h0 hk hv
        obtain ⟨k1, k2, k3⟩ := H.2.2.1 p hpn h0
        refine ⟨p, ?_, by rw [k3]; exact hv⟩
        unfold xob
        rw [if_pos ⟨by show (0 : Int) ≤ (p : Int); omega, by rw [H.1]; show (p : Int) < (n : Int); omega, by show h.2.1 p = 10 + c; rw [k1]; exact hk⟩]
        rfl
      cases hc : Nat.blt p 50 with
      | true =>
        rw [hc] at e
        have e1 : (bif Nat.beq p 0 then none else bif Nat.beq (stK0 p) (10 + c) then some (stM0 (fun _ => 0) p k) else none) = some v := e
        rw [bq, bq] at e1
        split at e1
        · cases e1
        · split at e1
          · rename_i h0 hk
            cases e1
            refine fin h0 ?_ ?_
            · unfold tK; rw [hc]; show (bif Nat.beq p 0 then 999 else stK0 p) = _; rw [bq, if_neg h0]; exact hk
            · unfold tM; rw [hc]; rfl
          · cases e1
      | false =>
        rw [hc] at e
        have e1 : (match og T (p - 50) with | some (kd, _, cc) => bif Nat.beq kd (10 + c) then some (cg kd cc k) else none | none => none) = some v := e
        have h50 : ¬ p < 50 := fun z => by rw [blt_t z] at hc; cases hc
        split at e1
        · rename_i kd ln cc ho
          rw [bq] at e1
          split at e1
          · rename_i hk
            cases e1
            obtain ⟨u1, u2, u3⟩ := tk_v h50 ho
            exact fin (by omega) (by rw [u1]; exact hk) (u3 k)
          · cases e1
        · cases e1
  · cases e
theorem tael_ok {kd : Nat} {x y v : Int} (H : Rh L xs h n T) (e : tael n T kd x y = some v) : ∃ p q, xat h kd x y = some (p, q) ∧ h.2.2.2 p q = v := by
  unfold tael at e
  split at e
  · rename_i p q
    cases hb : Nat.blt p n with
    | false => rw [hb] at e; cases e
    | true =>
      rw [hb] at e
      have hpn : p < n := Nat.le_of_ble_eq_true hb
      have fin : p ≠ 0 → tK T p = kd → q < tL T p → tM T p q = v → ∃ p' q', xat h kd (Int.ofNat p) (Int.ofNat q) = some (p', q') ∧ h.2.2.2 p' q' = v := by
        intro h0 hk hl hv
        obtain ⟨k1, k2, k3⟩ := H.2.2.1 p hpn h0
        refine ⟨p, q, ?_, by rw [k3]; exact hv⟩
        unfold xat
        rw [if_pos ⟨by show (0 : Int) ≤ (p : Int); omega, by rw [H.1]; show (p : Int) < (n : Int); omega, by show h.2.1 p = kd; rw [k1]; exact hk, by show (0 : Int) ≤ (q : Int); omega, by show (q : Int) < ((h.2.2.1 p : Nat) : Int); rw [k2]; omega⟩]
        rfl
      cases hc : Nat.blt p 50 with
      | true =>
        rw [hc] at e
        have e1 : (bif Nat.beq p 0 then none else bif Nat.beq (stK0 p) kd then (bif Nat.blt q (stL0 0 p) then some (stM0 (fun _ => 0) p q) else none) else none) = some v := e
        rw [bq, bq] at e1
        split at e1
        · cases e1
        · split at e1
          · rename_i h0 hk
            cases hd : Nat.blt q (stL0 0 p) with
            | false => rw [hd] at e1; cases e1
            | true =>
              rw [hd] at e1
              cases e1
              have hql : q < stL0 0 p := Nat.le_of_ble_eq_true hd
              refine fin h0 ?_ ?_ ?_
              · unfold tK; rw [hc]; show (bif Nat.beq p 0 then 999 else stK0 p) = _; rw [bq, if_neg h0]; exact hk
              · unfold tL; rw [hc]; show q < (bif Nat.beq p 0 then 0 else stL0 0 p); rw [bq, if_neg h0]; exact hql
              · unfold tM; rw [hc]; rfl
          · cases e1
      | false =>
        rw [hc] at e
        have e1 : (match og T (p - 50) with | some (kd', ln, cc) => bif Nat.beq kd' kd then (bif Nat.blt q ln then some (cg kd' cc q) else none) else none | none => none) = some v := e
        have h50 : ¬ p < 50 := fun z => by rw [blt_t z] at hc; cases hc
        split at e1
        · rename_i kd' ln cc ho
          rw [bq] at e1
          split at e1
          · rename_i hk
            cases hd : Nat.blt q ln with
            | false => rw [hd] at e1; cases e1
            | true =>
              rw [hd] at e1
              cases e1
              have hql : q < ln := Nat.le_of_ble_eq_true hd
              obtain ⟨u1, u2, u3⟩ := tk_v h50 ho
              exact fin (by omega) (by rw [u1]; exact hk) (by rw [u2]; exact hql) (u3 q)
          · cases e1
        · cases e1
  · cases e
end TFs
def q0 (i : Int) : tF := fun _ s => some (0, [i], s)
def q2 (j t : Nat) : tF := fun _ s => match lg s.1 j with
  | some (t', n) => bif Nat.beq t' t then some (0, [n], s) else none
  | none => none
def q3 (op : Nat) (fa fb : tF) : tF := fun _ s => tb (fa 0 s) fun x s1 => tb (fb 0 s1) fun y s2 => match xbin op x y with
  | some z => some (0, [z], s2)
  | none => none
def q4 (op : Nat) (fa : tF) : tF := fun _ s => tb (fa 0 s) fun x s1 => match xun op x with
  | some z => some (0, [z], s1)
  | none => none
def q5 (c k : Nat) (fa : tF) : tF := fun _ s => tb (fa 0 s) fun x s1 => match tfld s1.2.1 s1.2.2 c x k with
  | some v => some (0, [v], s1)
  | none => none
def q6 (kd : Nat) (fa fb : tF) : tF := fun _ s => tb (fa 0 s) fun x s1 => tb (fb 0 s1) fun y s2 => match tael s2.2.1 s2.2.2 kd x y with
  | some v => some (0, [v], s2)
  | none => none
def q7 (kd : Nat) (fa : tF) : tF := fun _ s => tb (fa 0 s) fun x s1 => if 0 < x ∧ x < s1.2.1 ∧ tK s1.2.2 x.toNat = kd then some (0, [(tL s1.2.2 x.toNat : Int)], s1) else none
def q8 (fm : tC) (fb : tF) : tF := fun _ s => ta (fb 0 s) fun vs s1 => match fm vs s1.2.1 s1.2.2 with
  | some (r, n, T) => some (0, r, (s1.1, n, T))
  | none => none
def q9 (fa fb fc : tF) : tF := fun _ s => tb (fa 0 s) fun x s1 => if x = 1 then fb 0 s1 else fc 0 s1
def q10 (c : Nat) (fm : tC) (fb : tF) : tF := fun _ s => tnew s.2.1 s.2.2 (10 + c) 0 fun T => ta (fb 0 (s.1, s.2.1 + 1, T)) fun vs s1 => match fm ((s.2.1 : Int) :: vs) s1.2.1 s1.2.2 with
  | some ([], n, T) => some (0, [(s.2.1 : Int)], (s1.1, n, T))
  | _ => none
def q12 (kd : Nat) (fa : tF) : tF := fun _ s => tb (fa 0 s) fun x s1 => if 0 ≤ x ∧ x ≤ 100000 then tnew s1.2.1 s1.2.2 kd x.toNat (fun T => some (0, [(s1.2.1 : Int)], (s1.1, s1.2.1 + 1, T))) else none
def q13 (kd ln : Nat) (fb : tF) : tF := fun _ s => tnew s.2.1 s.2.2 kd ln fun T => ta (fb s.2.1 (s.1, s.2.1 + 1, T)) fun _ s1 => some (0, [(s.2.1 : Int)], s1)
def q14 (i : Int) (fa fb : tF) : tF := fun g s => tb (fa 0 s) fun z s1 => match tat s1.2.1 s1.2.2 1 g i with
  | some (p, q) => tput s1.2.2 p q z fun T => fb g (s1.1, s1.2.1, T)
  | none => none
def q20 (op : Nat) (fa fb : tF) : tF := fun _ s => tb (fa 0 s) fun x s1 => tb (fb 0 s1) fun y s2 => some (0, [if xcmp op x y then 1 else 0], s2)
def q21 (op : Nat) (fa : tF) : tF := fun _ s => tb (fa 0 s) fun x s1 => some (0, [if xcmp op x 0 then 1 else 0], s1)
def q23 (fa fb : tF) : tF := fun _ s => tb (fa 0 s) fun x s1 => if x = 1 then fb 0 s1 else some (0, [0], s1)
def q24 (fa fb : tF) : tF := fun _ s => tb (fa 0 s) fun x s1 => if x = 1 then some (0, [1], s1) else fb 0 s1
def q27 (fa fb : tF) : tF := fun _ s => tb (fa 0 s) fun x s1 => if x = 1 then tnz (fb 0 s1) else some (0, [], s1)
def q30 : tF := fun _ s => some (0, [], s)
def q31 (fa fb : tF) : tF := fun _ s => tq (fa 0 s) fun s1 => fb 0 s1
def q32 (j t : Nat) (fb : tF) : tF := fun _ s => tb (fb 0 s) fun x s1 => if j + t % 2 < s1.1.length then some (0, [], (lset s1.1 j t x, s1.2)) else none
def q33 (j : Nat) (v : Int) : tF := fun _ s => match lg s.1 j with
  | some (0, n) => some (0, [], (lset s.1 j 0 (w32 (n + v)), s.2))
  | _ => none
def q34 (c k : Nat) (fa fb : tF) : tF := fun _ s => tb (fa 0 s) fun x s1 => tb (fb 0 s1) fun y s2 => match tob s2.2.1 s2.2.2 c x with
  | some p => if xfit (pft c k) y = true then tput s2.2.2 p k y (fun T => some (0, [], (s2.1, s2.2.1, T))) else none
  | none => none
def q35 (kd : Nat) (fa fb fc : tF) : tF := fun _ s => tb (fa 0 s) fun x s1 => tb (fb 0 s1) fun y s2 => tb (fc 0 s2) fun z s3 => match tat s3.2.1 s3.2.2 kd x y with
  | some (p, q) => tput s3.2.2 p q (xnar kd z) fun T => some (0, [], (s3.1, s3.2.1, T))
  | none => none
def q36 (fa : tF) : tF := fun _ s => match fa 0 s with
  | some (0, [], s1) => some (0, [], s1)
  | _ => none
def q37 (fa : tF) : tF := fun _ s => tb (fa 0 s) fun _ s1 => some (0, [], s1)
def q38 (fa fb : tF) : tF := fun _ s => tb (fa 0 s) fun x s1 => if x = 1 then fb 0 s1 else some (0, [], s1)
def q40 (fa fb fc : tF) : tF := fun _ s => tb (fa 0 s) fun x s1 => if x = 1 then tnz (fb 0 s1) else fc 0 s1
def q41 (F : Nat) (fa fb fc : tF) : tF := fun _ s => txl (fun t => fa 0 t) (fun t => fb 0 t) (fun t => fc 0 t) F s
def q47 (fb : tF) : tF := fun _ s => tb (fb 0 s) fun x s1 => some (3, [x], s1)
def q48 : tF := fun _ s => some (3, [], s)
def q54 (op c k : Nat) (fa fb : tF) : tF := fun _ s => tb (fa 0 s) fun x s1 => match tob s1.2.1 s1.2.2 c x with
  | some p => tb (fb 0 s1) fun y s2 => match xbin op (tM s1.2.2 p k) y, tob s2.2.1 s2.2.2 c x with
    | some z, some _ => tput s2.2.2 p k z fun T => some (0, [], (s2.1, s2.2.1, T))
    | _, _ => none
  | none => none
def q56 : tF := fun _ s => match lg s.1 0 with
  | some (2, n) => if 0 ≤ n then some (0, [], s) else none
  | _ => none
def q58 (fa fb : tF) : tF := fun _ s => tb (fa 0 s) fun x s1 => ta (fb 0 s1) fun vs s2 => some (0, x :: vs, s2)
def q59 (fb : tF) : tF := fun _ s => ta (fb 0 s) fun vs s1 => match vs with
  | [src, sp, dst, dp, n] => if 50 ≤ src ∧ src < s1.2.1 ∧ tK s1.2.2 src.toNat = 0 ∧ 50 ≤ dst ∧ dst < s1.2.1 ∧ tK s1.2.2 dst.toNat = 0 ∧ 0 ≤ sp ∧ 0 ≤ dp ∧ 0 ≤ n ∧ sp + n ≤ tL s1.2.2 src.toNat ∧ dp + n ≤ tL s1.2.2 dst.toNat ∧ src.toNat ≠ dst.toNat then tcp src.toNat sp.toNat dst.toNat dp.toNat n.toNat s1.2.2 (fun T => some (0, [], (s1.1, s1.2.1, T))) else none
  | _ => none
def q60 (fb : tF) : tF := fun _ s => ta (fb 0 s) fun vs s1 => match vs with
  | [src, sp, dst, dp, n] => if 0 < src ∧ src < 50 ∧ tK s1.2.2 src.toNat = 2 ∧ 50 ≤ dst ∧ dst < s1.2.1 ∧ tK s1.2.2 dst.toNat = 2 ∧ 0 ≤ sp ∧ 0 ≤ dp ∧ 0 ≤ n ∧ sp + n ≤ tL s1.2.2 src.toNat ∧ dp + n ≤ tL s1.2.2 dst.toNat ∧ (∀ i, i < n.toNat → -128 ≤ tM s1.2.2 src.toNat (sp.toNat + i) ∧ tM s1.2.2 src.toNat (sp.toNat + i) ≤ 127) then tcp src.toNat sp.toNat dst.toNat dp.toNat n.toNat s1.2.2 (fun T => some (0, [], (s1.1, s1.2.1, T))) else none
  | _ => none
def trecv (n : Nat) (T : tT) (rc : Nat) (vs : List Int) : Bool := match rc, vs with
  | 0, _ => true
  | c + 1, v :: _ => (tob n T c v).isSome
  | _, _ => false
def qm (nL : Nat) (ts : List Nat) (rc rt : Nat) (f : tF) : tC := fun vs n T => if vs.length = ts.length ∧ trecv n T rc vs = true then (match f 0 (xargs ts vs ++ List.replicate (nL - (xargs ts vs).length) (9, 0), n, T) with
  | some (3, r, s) => if xret rt r then some (r, s.2) else none
  | _ => none) else none
section SF
variable {L : Nat} {xs : Nat → Int32} {d F : Nat} {i : Int} {a b c : xT} {fa fb fc : tF} {fm : tC}
/-- a function says no more than a tree -/
def EF (L : Nat) (xs : Nat → Int32) (d F : Nat) (t : xT) (f : tF) : Prop := ∀ g s s', Rs L xs s s' → RR L xs (ev pft (xcall pft pmt F pS d) F pS t g s) (f g s')
def CM (L : Nat) (xs : Nat → Int32) (d F : Nat) (i : Nat) (fm : tC) : Prop := ∀ vs h n T r q, Rh L xs h n T → fm vs n T = some (r, q) → ∃ h', xcall pft pmt F pS d i vs h = some (r, h') ∧ Rh L xs h' q.1 q.2
theorem s_0 : EF L xs d F (nd 0 i a b) (q0 i) := fun _ _ _ hs => rr_s hs
theorem s_1 : EF L xs d F (nd 1 i a b) (q0 i) := fun _ _ _ hs => rr_s hs
theorem s_16 : EF L xs d F (nd 16 i a b) (q0 i) := fun _ _ _ hs => rr_s hs
theorem s_17 : EF L xs d F (nd 17 i a b) (q0 i) := fun _ _ _ hs => rr_s hs
theorem s_18 : EF L xs d F (nd 18 i a b) (q0 i) := fun _ _ _ hs => rr_s hs
theorem s_30 : EF L xs d F (nd 30 i a b) q30 := fun _ _ _ hs => rr_s hs
theorem s_57 : EF L xs d F (nd 57 i a b) q30 := fun _ _ _ hs => rr_s hs
theorem s_48 : EF L xs d F (nd 48 i a b) q48 := fun _ _ _ hs => rr_s hs
theorem s_2 : EF L xs d F (nd 2 i a b) (q2 (i.toNat / 4) (i.toNat % 4)) := by
  intro g s s' hs
  obtain ⟨Lo, h⟩ := s
  obtain ⟨Lo', n, T⟩ := s'
  obtain ⟨e1, e2⟩ := hs
  cases e1
  show RR L xs (match Lo[i.toNat / 4]? with | some (t, n) => if t = i.toNat % 4 then some (0, [n], (Lo, h)) else none | none => none) (match lg Lo (i.toNat / 4) with | some (t, n1) => bif Nat.beq t (i.toNat % 4) then some (0, [n1], (Lo, n, T)) else none | none => none)
  rw [lg_eq]
  generalize Lo[i.toNat / 4]? = q
  cases q with
  | none => exact rr_n
  | some q =>
    show RR L xs (if q.1 = i.toNat % 4 then some (0, [q.2], (Lo, h)) else none) (bif Nat.beq q.1 (i.toNat % 4) then some (0, [q.2], (Lo, n, T)) else none)
    rw [bq]
    exact rr_if (fun _ => rr_s ⟨rfl, e2⟩) (fun _ => rr_n)
theorem s_5 (ha : EF L xs d F a fa) : EF L xs d F (nd 5 i a b) (q5 (i.toNat / 1000) (i.toNat % 1000) fa) := by
  intro g s s' hs
  refine rr_b (ha 0 _ _ hs) fun x s1 s1' h1 => ?_
  cases hq : tfld s1'.2.1 s1'.2.2 (i.toNat / 1000) x (i.toNat % 1000) with
  | none => exact rr_n
  | some v =>
    obtain ⟨p, z1, z2⟩ := tfld_ok h1.2 hq
    rw [z1]
    show RR L xs (some (0, [s1.2.2.2.2 p (i.toNat % 1000)], s1)) (some (0, [v], s1'))
    rw [z2]
    exact rr_s h1
theorem s_6 (ha : EF L xs d F a fa) (hb : EF L xs d F b fb) : EF L xs d F (nd 6 i a b) (q6 i.toNat fa fb) := by
  intro g s s' hs
  refine rr_b (ha 0 _ _ hs) fun x s1 s1' h1 => rr_b (hb 0 _ _ h1) fun y s2 s2' h2 => ?_
  cases hq : tael s2'.2.1 s2'.2.2 i.toNat x y with
  | none => exact rr_n
  | some v =>
    obtain ⟨p, q, z1, z2⟩ := tael_ok h2.2 hq
    rw [z1]
    show RR L xs (some (0, [s2.2.2.2.2 p q], s2)) (some (0, [v], s2'))
    rw [z2]
    exact rr_s h2
theorem s_33 : EF L xs d F (nd 33 i a b) (q33 (i.toNat / 65536) (i % 65536 - 32768)) := by
  intro g s s' hs
  obtain ⟨Lo, h⟩ := s
  obtain ⟨Lo', n, T⟩ := s'
  obtain ⟨e1, e2⟩ := hs
  cases e1
  intro c v s2 e
  replace e : (match lg Lo (i.toNat / 65536) with | some (0, n1) => some (0, [], (lset Lo (i.toNat / 65536) 0 (w32 (n1 + (i % 65536 - 32768))), n, T)) | _ => (none : Option tR)) = some (c, v, s2) := e
  rw [lg_eq] at e
  split at e
  · rename_i n1 hq
    cases e
    refine ⟨(lset Lo (i.toNat / 65536) 0 (w32 (n1 + (i % 65536 - 32768))), h), ?_, rfl, e2⟩
    show (match Lo[i.toNat / 65536]? with | some (0, n) => some (0, [], (lset Lo (i.toNat / 65536) 0 (w32 (n + (i % 65536 - 32768))), h)) | _ => (none : Option xR)) = _
    rw [hq]
    rfl
  · cases e
theorem s_56 : EF L xs d F (nd 56 i a b) q56 := by
  intro g s s' hs c v s2 e
  replace e : (match lg s'.1 0 with | some (2, n) => if (0 : Int) ≤ n then some (0, [], s') else none | _ => (none : Option tR)) = some (c, v, s2) := e
  rw [lg_eq] at e
  split at e
  · rename_i n1 hq
    split at e
    · rename_i hn
      cases e
      refine ⟨s, ?_, hs⟩
      show (match (s.1 : List (Nat × Int))[0]? with | some (2, n) => if (0 : Int) ≤ n then some (0, [], s) else none | _ => (none : Option xR)) = _
      rw [hs.1, hq]
      exact if_pos hn
    · cases e
  · cases e
theorem s_3 (ha : EF L xs d F a fa) (hb : EF L xs d F b fb) : EF L xs d F (nd 3 i a b) (q3 i.toNat fa fb) := by
  intro g s s' hs
  refine rr_b (ha 0 _ _ hs) fun x s1 s1' h1 => rr_b (hb 0 _ _ h1) fun y s2 s2' h2 => ?_
  generalize xbin i.toNat x y = q
  cases q with
  | none => exact rr_n
  | some q => exact rr_s h2
theorem s_4 (ha : EF L xs d F a fa) : EF L xs d F (nd 4 i a b) (q4 i.toNat fa) := by
  intro g s s' hs
  refine rr_b (ha 0 _ _ hs) fun x s1 s1' h1 => ?_
  generalize xun i.toNat x = q
  cases q with
  | none => exact rr_n
  | some q => exact rr_s h1
theorem s_7 (ha : EF L xs d F a fa) : EF L xs d F (nd 7 i a b) (q7 i.toNat fa) := by
  intro g s s' hs
  refine rr_b (ha 0 _ _ hs) fun x s1 s1' h1 => ?_
  by_cases hc : 0 < x ∧ x < s1'.2.1 ∧ tK s1'.2.2 x.toNat = i.toNat
  · obtain ⟨k1, k2, k3⟩ := h1.2.2.2.1 x.toNat (by omega) (by omega)
    rw [if_pos hc, if_pos ⟨by omega, by rw [h1.2.1]; exact hc.2.1, by rw [k1]; exact hc.2.2⟩, k2]
    exact rr_s h1
  · rw [if_neg hc]
    exact rr_n
theorem s_8 (hm : CM L xs d F i.toNat fm) (hb : EF L xs d F b fb) : EF L xs d F (nd 8 i a b) (q8 fm fb) := by
  intro g s s' hs
  refine rr_a (hb 0 _ _ hs) fun vs s1 s1' h1 => ?_
  cases hq : fm vs s1'.2.1 s1'.2.2 with
  | none => exact rr_n
  | some p =>
    obtain ⟨r, n, T⟩ := p
    obtain ⟨h', z1, z2⟩ := hm _ _ _ _ _ _ h1.2 hq
    rw [z1]
    exact rr_s ⟨h1.1, z2⟩
theorem s_10 (hm : CM L xs d F (i.toNat % 1000) fm) (hb : EF L xs d F b fb) : EF L xs d F (nd 10 i a b) (q10 (i.toNat / 1000) fm fb) := by
  intro g s s' hs
  refine rr_new hs.2 fun T hT => ?_
  show RR L xs (xa (ev pft (xcall pft pmt F pS d) F pS b 0 (s.1, hnew pft s.2 (10 + i.toNat / 1000) 0)) _) (ta (fb 0 (s'.1, s'.2.1 + 1, T)) _)
  refine rr_a (hb 0 _ _ ⟨hs.1, hT⟩) fun vs s1 s1' h1 => ?_
  rw [hs.2.1]
  cases hq : fm ((s'.2.1 : Int) :: vs) s1'.2.1 s1'.2.2 with
  | none => exact rr_n
  | some p =>
    obtain ⟨r, n, T⟩ := p
    obtain ⟨h', z1, z2⟩ := hm _ _ _ _ _ _ h1.2 hq
    rw [z1]
    cases r with
    | nil => exact rr_s ⟨h1.1, z2⟩
    | cons x r => exact rr_n
theorem s_12 (ha : EF L xs d F a fa) : EF L xs d F (nd 12 i a b) (q12 i.toNat fa) := by
  intro g s s' hs
  refine rr_b (ha 0 _ _ hs) fun x s1 s1' h1 => rr_if (fun _ => ?_) (fun _ => rr_n)
  refine rr_new h1.2 fun T hT => ?_
  rw [h1.2.1]
  exact rr_s ⟨h1.1, hT⟩
theorem s_13 (hb : EF L xs d F b fb) : EF L xs d F (nd 13 i a b) (q13 (i.toNat / 1000) (i.toNat % 1000) fb) := by
  intro g s s' hs
  refine rr_new hs.2 fun T hT => ?_
  show RR L xs (xa (ev pft (xcall pft pmt F pS d) F pS b s.2.1 (s.1, hnew pft s.2 (i.toNat / 1000) (i.toNat % 1000))) _) (ta (fb s'.2.1 (s'.1, s'.2.1 + 1, T)) _)
  rw [hs.2.1]
  refine rr_a (hb _ _ _ ⟨hs.1, hT⟩) fun vs s1 s1' h1 => ?_
  exact rr_s h1
theorem s_14 (ha : EF L xs d F a fa) (hb : EF L xs d F b fb) : EF L xs d F (nd 14 i a b) (q14 i fa fb) := by
  intro g s s' hs
  refine rr_b (ha 0 _ _ hs) fun z s1 s1' h1 => ?_
  cases hq : tat s1'.2.1 s1'.2.2 1 g i with
  | none => exact rr_n
  | some p =>
    obtain ⟨p, q⟩ := p
    obtain ⟨z1, z2, z3⟩ := tat_ok h1.2 hq
    rw [z1]
    exact rr_put h1.2 z2 fun _ T hT => hb _ _ _ ⟨h1.1, hT⟩
theorem s_20 (ha : EF L xs d F a fa) (hb : EF L xs d F b fb) : EF L xs d F (nd 20 i a b) (q20 i.toNat fa fb) := fun g s s' hs =>
  rr_b (ha 0 _ _ hs) fun _ _ _ h1 => rr_b (hb 0 _ _ h1) fun _ _ _ h2 => rr_s h2
theorem s_21 (ha : EF L xs d F a fa) : EF L xs d F (nd 21 i a b) (q21 i.toNat fa) := fun g s s' hs =>
  rr_b (ha 0 _ _ hs) fun _ _ _ h1 => rr_s h1
theorem s_23 (ha : EF L xs d F a fa) (hb : EF L xs d F b fb) : EF L xs d F (nd 23 i a b) (q23 fa fb) := fun g s s' hs =>
  rr_b (ha 0 _ _ hs) fun _ _ _ h1 => rr_if (fun _ => hb 0 _ _ h1) (fun _ => rr_s h1)
theorem s_24 (ha : EF L xs d F a fa) (hb : EF L xs d F b fb) : EF L xs d F (nd 24 i a b) (q24 fa fb) := fun g s s' hs =>
  rr_b (ha 0 _ _ hs) fun _ _ _ h1 => rr_if (fun _ => rr_s h1) (fun _ => hb 0 _ _ h1)
theorem s_27 (ha : EF L xs d F a fa) (hb : EF L xs d F b fb) : EF L xs d F (nd 27 i a b) (q27 fa fb) := fun g s s' hs =>
  rr_b (ha 0 _ _ hs) fun _ _ _ h1 => rr_if (fun _ => rr_nz (hb 0 _ _ h1)) (fun _ => rr_s h1)
theorem s_31 (ha : EF L xs d F a fa) (hb : EF L xs d F b fb) : EF L xs d F (nd 31 i a b) (q31 fa fb) := fun g s s' hs =>
  rr_q (ha 0 _ _ hs) fun _ _ h1 => hb 0 _ _ h1
theorem s_32 (hb : EF L xs d F b fb) : EF L xs d F (nd 32 i a b) (q32 (i.toNat / 4) (i.toNat % 4) fb) := by
  intro g s s' hs
  refine rr_b (hb 0 _ _ hs) fun x s1 s1' h1 => ?_
  rw [h1.1]
  exact rr_if (fun _ => rr_s ⟨rfl, h1.2⟩) (fun _ => rr_n)
theorem s_34 (ha : EF L xs d F a fa) (hb : EF L xs d F b fb) : EF L xs d F (nd 34 i a b) (q34 (i.toNat / 1000) (i.toNat % 1000) fa fb) := by
  intro g s s' hs
  refine rr_b (ha 0 _ _ hs) fun x s1 s1' h1 => rr_b (hb 0 _ _ h1) fun y s2 s2' h2 => ?_
  cases hq : tob s2'.2.1 s2'.2.2 (i.toNat / 1000) x with
  | none => exact rr_n
  | some p =>
    obtain ⟨z1, z2, z3⟩ := tob_ok h2.2 hq
    rw [z1]
    show RR L xs (if pS ≤ p ∧ xfit (pft (i.toNat / 1000) (i.toNat % 1000)) y = true then some (0, [], (s2.1, hput s2.2 p (i.toNat % 1000) y)) else none) (if xfit (pft (i.toNat / 1000) (i.toNat % 1000)) y = true then tput s2'.2.2 p (i.toNat % 1000) y (fun T => some (0, [], (s2'.1, s2'.2.1, T))) else none)
    by_cases hf : xfit (pft (i.toNat / 1000) (i.toNat % 1000)) y = true
    · rw [if_pos hf]
      have := rr_put (L := L) (xs := xs) (r := some (0, [], (s2.1, hput s2.2 p (i.toNat % 1000) y))) (q := i.toNat % 1000) (v := y) (K := fun T => some (0, [], (s2'.1, s2'.2.1, T))) h2.2 z2 fun _ T hT => rr_s ⟨h2.1, hT⟩
      by_cases hp : pS ≤ p
      · rw [if_pos ⟨hp, hf⟩]
        rw [if_pos hp] at this
        exact this
      · rw [if_neg (fun z => hp z.1)]
        rw [if_neg hp] at this
        exact this
    · rw [if_neg hf]
      exact rr_n
theorem s_36 (ha : EF L xs d F a fa) : EF L xs d F (nd 36 i a b) (q36 fa) := by
  intro g s s' hs
  intro c v s2 e
  replace e : (match fa 0 s' with | some (0, [], s1) => some (0, [], s1) | _ => (none : Option tR)) = some (c, v, s2) := e
  split at e
  · rename_i s1 hq
    obtain ⟨t1, f1, g1⟩ := ha 0 _ _ hs _ _ _ hq
    cases e
    refine ⟨t1, ?_, g1⟩
    show (match ev pft (xcall pft pmt F pS d) F pS a 0 s with | some (0, [], s1) => some (0, [], s1) | _ => (none : Option xR)) = _
    rw [f1]
    rfl
  · cases e
theorem s_37 (ha : EF L xs d F a fa) : EF L xs d F (nd 37 i a b) (q37 fa) := fun g s s' hs =>
  rr_b (ha 0 _ _ hs) fun _ _ _ h1 => rr_s h1
theorem s_38 (ha : EF L xs d F a fa) (hb : EF L xs d F b fb) : EF L xs d F (nd 38 i a b) (q38 fa fb) := fun g s s' hs =>
  rr_b (ha 0 _ _ hs) fun _ _ _ h1 => rr_if (fun _ => hb 0 _ _ h1) (fun _ => rr_s h1)
theorem s_47 (hb : EF L xs d F b fb) : EF L xs d F (nd 47 i a b) (q47 fb) := fun g s s' hs =>
  rr_b (hb 0 _ _ hs) fun _ _ _ h1 => rr_s h1
theorem s_54 (ha : EF L xs d F a fa) (hb : EF L xs d F b fb) : EF L xs d F (nd 54 i a b) (q54 (i.toNat / 1000000) (i.toNat % 1000000 / 1000) (i.toNat % 1000) fa fb) := by
  intro g s s' hs
  refine rr_b (ha 0 _ _ hs) fun x s1 s1' h1 => ?_
  cases hq : tob s1'.2.1 s1'.2.2 (i.toNat % 1000000 / 1000) x with
  | none => exact rr_n
  | some p =>
    obtain ⟨z1, z2, z3⟩ := tob_ok h1.2 hq
    rw [z1]
    refine rr_b (hb 0 _ _ h1) fun y s2 s2' h2 => ?_
    rw [(h1.2.2.2.1 p z2 z3).2.2]
    generalize xbin (i.toNat / 1000000) (tM s1'.2.2 p (i.toNat % 1000)) y = w
    cases w with
    | none => exact rr_n
    | some w =>
      cases hq2 : tob s2'.2.1 s2'.2.2 (i.toNat % 1000000 / 1000) x with
      | none => exact rr_n
      | some p2 =>
        obtain ⟨y1, y2, y3⟩ := tob_ok h2.2 hq2
        rw [y1]
        have hpp : p2 = p := by
          unfold tob at hq hq2
          split at hq
          · split at hq2
            · cases hq; cases hq2; rfl
            · cases hq2
          · cases hq
        subst hpp
        exact rr_put h2.2 y2 fun _ T hT => rr_s ⟨h2.1, hT⟩
theorem s_58 (ha : EF L xs d F a fa) (hb : EF L xs d F b fb) : EF L xs d F (nd 58 i a b) (q58 fa fb) := fun g s s' hs =>
  rr_b (ha 0 _ _ hs) fun _ _ _ h1 => rr_a (hb 0 _ _ h1) fun _ _ _ h2 => rr_s h2
theorem s_59 (hb : EF L xs d F b fb) : EF L xs d F (nd 59 i a b) (q59 fb) := by
  intro g s s' hs
  refine rr_a (hb 0 _ _ hs) fun vs s1 s1' h1 => ?_
  intro c v s2 e
  split at e
  · rename_i src sp dst dp n
    split at e
    · rename_i hc
      obtain ⟨c1, c2, c3, c4, c5, c6, c7, c8, c9, c10, c11, c12⟩ := hc
      obtain ⟨T', e1, e2⟩ := tcp_ok h1.2 (by omega) (by omega) (by omega) c12 (by omega) _ _ _ e
      cases e1
      obtain ⟨k1, k2, k3⟩ := h1.2.2.2.1 src.toNat (by omega) (by omega)
      obtain ⟨l1, l2, l3⟩ := h1.2.2.2.1 dst.toNat (by omega) (by omega)
      have hx : xcopy pS s1.2 src sp dst dp n = some _ := if_pos ⟨by omega, by rw [h1.2.1]; exact c2, by rw [k1]; exact c3, c1, c4, by rw [h1.2.1]; exact c5, by rw [l1]; exact c6, c7, c8, c9, by rw [k2]; exact c10, by rw [l2]; exact c11⟩
      refine ⟨(s1.1, hrow s1.2 dst.toNat (fun j => if dp.toNat ≤ j ∧ j < dp.toNat + n.toNat then s1.2.2.2.2 src.toNat (sp.toNat + (j - dp.toNat)) else s1.2.2.2.2 dst.toNat j)), ?_, h1.1, e2⟩
      · show (match xcopy pS s1.2 src sp dst dp n with | some h => some (0, [], (s1.1, h)) | none => (none : Option xR)) = _
        rw [hx]
    · cases e
  · cases e
theorem s_60 (hb : EF L xs d F b fb) : EF L xs d F (nd 60 i a b) (q60 fb) := by
  intro g s s' hs
  refine rr_a (hb 0 _ _ hs) fun vs s1 s1' h1 => ?_
  intro c v s2 e
  split at e
  · rename_i src sp dst dp n
    split at e
    · rename_i hc
      obtain ⟨c1, c2, c3, c4, c5, c6, c7, c8, c9, c10, c11, c12⟩ := hc
      have hn5 := h1.2.2.1
      obtain ⟨T', e1, e2⟩ := tcp_ok h1.2 (by omega) (by omega) (by omega) (by omega) (by omega) _ _ _ e
      cases e1
      obtain ⟨k1, k2, k3⟩ := h1.2.2.2.1 src.toNat (by omega) (by omega)
      obtain ⟨l1, l2, l3⟩ := h1.2.2.2.1 dst.toNat (by omega) (by omega)
      have hx : xcopyB pS s1.2 src sp dst dp n = some _ := if_pos ⟨by omega, c2, by rw [h1.2.1]; omega, by rw [k1]; exact c3, c4, by rw [h1.2.1]; exact c5, by rw [l1]; exact c6, c7, c8, c9, by rw [k2]; exact c10, by rw [l2]; exact c11, fun i hi => by rw [k3]; exact c12 i hi⟩
      refine ⟨(s1.1, hrow s1.2 dst.toNat (fun j => if dp.toNat ≤ j ∧ j < dp.toNat + n.toNat then s1.2.2.2.2 src.toNat (sp.toNat + (j - dp.toNat)) else s1.2.2.2.2 dst.toNat j)), ?_, h1.1, e2⟩
      · show (match xcopyB pS s1.2 src sp dst dp n with | some h => some (0, [], (s1.1, h)) | none => (none : Option xR)) = _
        rw [hx]
    · cases e
  · cases e
theorem s_9 (ha : EF L xs d F a fa) (hb : EF L xs d F b fb) (hc : EF L xs d F c fc) : EF L xs d F (n3 9 i a b c) (q9 fa fb fc) := fun g s s' hs =>
  rr_b (ha 0 _ _ hs) fun _ _ _ h1 => rr_if (fun _ => hb 0 _ _ h1) (fun _ => hc 0 _ _ h1)
theorem s_39 (ha : EF L xs d F a fa) (hb : EF L xs d F b fb) (hc : EF L xs d F c fc) : EF L xs d F (n3 39 i a b c) (q9 fa fb fc) := fun g s s' hs =>
  rr_b (ha 0 _ _ hs) fun _ _ _ h1 => rr_if (fun _ => hb 0 _ _ h1) (fun _ => hc 0 _ _ h1)
theorem s_40 (ha : EF L xs d F a fa) (hb : EF L xs d F b fb) (hc : EF L xs d F c fc) : EF L xs d F (n3 40 i a b c) (q40 fa fb fc) := fun g s s' hs =>
  rr_b (ha 0 _ _ hs) fun _ _ _ h1 => rr_if (fun _ => rr_nz (hb 0 _ _ h1)) (fun _ => hc 0 _ _ h1)
theorem s_41 (ha : EF L xs d F a fa) (hb : EF L xs d F b fb) (hc : EF L xs d F c fc) : EF L xs d F (n3 41 i a b c) (q41 F fa fb fc) := fun g s s' hs =>
  rr_l (fun _ _ h => ha 0 _ _ h) (fun _ _ h => hb 0 _ _ h) (fun _ _ h => hc 0 _ _ h) F _ _ hs
theorem s_35 (ha : EF L xs d F a fa) (hb : EF L xs d F b fb) (hc : EF L xs d F c fc) : EF L xs d F (n3 35 i a b c) (q35 i.toNat fa fb fc) := by
  intro g s s' hs
  refine rr_b (ha 0 _ _ hs) fun x s1 s1' h1 => rr_b (hb 0 _ _ h1) fun y s2 s2' h2 => rr_b (hc 0 _ _ h2) fun z s3 s3' h3 => ?_
  cases hq : tat s3'.2.1 s3'.2.2 i.toNat x y with
  | none => exact rr_n
  | some p =>
    obtain ⟨p, q⟩ := p
    obtain ⟨z1, z2, z3⟩ := tat_ok h3.2 hq
    rw [z1]
    exact rr_put h3.2 z2 fun _ T hT => rr_s ⟨h3.1, hT⟩
theorem s_m {nL : Nat} {ts : List Nat} {rc rt : Nat} {t : xT} {f : tF} {j d' : Nat} (hm : pmt j = some (nL, ts, rc, rt, t)) (hf : EF L xs d F t f) (hd : d' = d + 1) : CM L xs d' F j (qm nL ts rc rt f) := by
  subst hd
  intro vs h n T r q H e
  unfold qm at e
  split at e
  · rename_i hc
    have hrc : xrecv h rc vs = true := by
      have z := hc.2
      unfold trecv at z
      unfold xrecv
      split at z
      · rfl
      · rename_i c v r2
        obtain ⟨p, hp⟩ := Option.isSome_iff_exists.mp z
        show (xob h c v).isSome = true
        rw [(tob_ok H hp).1]; rfl
      · cases z
    split at e
    · rename_i r2 s2 he
      obtain ⟨s3, f1, f2⟩ := hf 0 (xargs ts vs ++ List.replicate (nL - (xargs ts vs).length) (9, 0), h) _ ⟨rfl, H⟩ _ _ _ he
      split at e
      · rename_i hr
        cases e
        refine ⟨s3.2, ?_, f2.2⟩
        unfold xcall
        rw [hm]
        show (if vs.length = ts.length ∧ xrecv h rc vs = true then _ else _) = _
        rw [if_pos ⟨hc.1, hrc⟩, f1]
        exact if_pos hr
      · cases e
    · cases e
  · cases e
end SF
