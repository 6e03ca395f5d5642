/-! WHAT THE SECOND MACHINE SAYS, THE FIRST SAYS -/
section ET
variable {L : Nat} {xs : Nat → Int32} {cl : Nat → List Int → xH → Option (List Int × xH)} {cl' : tC} {F : Nat} {i : Int} {a b c : xT} {s : xS} {s' : tS} {g : Nat}
abbrev EI (L : Nat) (xs : Nat → Int32) (cl : Nat → List Int → xH → Option (List Int × xH)) (cl' : tC) (F : Nat) (t : xT) : Prop := ∀ g s s', Rs L xs s s' → RR L xs (ev pft cl F pS t g s) (et cl' F t g s')
abbrev CI (L : Nat) (xs : Nat → Int32) (cl : Nat → List Int → xH → Option (List Int × xH)) (cl' : tC) : Prop := ∀ i vs h n T r q, Rh L xs h n T → cl' i vs n T = some (r, q) → ∃ h', cl i vs h = some (r, h') ∧ Rh L xs h' q.1 q.2
theorem e_2 (hs : Rs L xs s s') : RR L xs (ev pft cl F pS (nd 2 i a b) g s) (et cl' F (nd 2 i a b) g s') := by
  obtain ⟨Lo, h⟩ := s
  obtain ⟨Lo', n, T⟩ := s'
  obtain ⟨e1, e2⟩ := hs
  cases e1
  show RR L xs (match Lo[i.toNat / 4]? with | some (t, n) => if t = i.toNat % 4 then some (0, [n], (Lo, h)) else none | none => none) (match Lo[i.toNat / 4]? with | some (t, n1) => if t = i.toNat % 4 then some (0, [n1], (Lo, n, T)) else none | none => none)
  generalize Lo[i.toNat / 4]? = q
  cases q with
  | none => exact rr_n
  | some q => exact rr_if (fun _ => rr_s ⟨rfl, e2⟩) (fun _ => rr_n)
theorem e_3 (ha : EI L xs cl cl' F a) (hb : EI L xs cl cl' F b) (hs : Rs L xs s s') : RR L xs (ev pft cl F pS (nd 3 i a b) g s) (et cl' F (nd 3 i a b) g s') := by
  refine rr_b (ha 0 _ _ hs) fun x s1 s1' h1 => rr_b (hb 0 _ _ h1) fun y s2 s2' h2 => ?_
  generalize xbin i.toNat x y = q
  cases q with
  | none => exact rr_n
  | some q => exact rr_s h2
theorem e_4 (ha : EI L xs cl cl' F a) (hs : Rs L xs s s') : RR L xs (ev pft cl F pS (nd 4 i a b) g s) (et cl' F (nd 4 i a b) g s') := by
  refine rr_b (ha 0 _ _ hs) fun x s1 s1' h1 => ?_
  generalize xun i.toNat x = q
  cases q with
  | none => exact rr_n
  | some q => exact rr_s h1
theorem e_5 (ha : EI L xs cl cl' F a) (hs : Rs L xs s s') : RR L xs (ev pft cl F pS (nd 5 i a b) g s) (et cl' F (nd 5 i a b) g s') := by
  refine rr_b (ha 0 _ _ hs) fun x s1 s1' h1 => ?_
  cases hq : tob s1'.2.1 s1'.2.2 (i.toNat / 1000) x with
  | none => exact rr_n
  | some p =>
    obtain ⟨z1, z2, z3⟩ := tob_ok h1.2 hq
    rw [z1]
    show RR L xs (some (0, [s1.2.2.2.2 p (i.toNat % 1000)], s1)) (some (0, [tM s1'.2.2 p (i.toNat % 1000)], s1'))
    rw [(h1.2.2.2.1 p z2 z3).2.2]
    exact rr_s h1
theorem e_6 (ha : EI L xs cl cl' F a) (hb : EI L xs cl cl' F b) (hs : Rs L xs s s') : RR L xs (ev pft cl F pS (nd 6 i a b) g s) (et cl' F (nd 6 i a b) g s') := by
  refine rr_b (ha 0 _ _ hs) fun x s1 s1' h1 => rr_b (hb 0 _ _ h1) fun y s2 s2' h2 => ?_
  cases hq : tat s2'.2.1 s2'.2.2 i.toNat x y with
  | none => exact rr_n
  | some p =>
    obtain ⟨p, q⟩ := p
    obtain ⟨z1, z2, z3⟩ := tat_ok h2.2 hq
    rw [z1]
    show RR L xs (some (0, [s2.2.2.2.2 p q], s2)) (some (0, [tM s2'.2.2 p q], s2'))
    rw [(h2.2.2.2.1 p z2 z3).2.2]
    exact rr_s h2
theorem e_7 (ha : EI L xs cl cl' F a) (hs : Rs L xs s s') : RR L xs (ev pft cl F pS (nd 7 i a b) g s) (et cl' F (nd 7 i a b) g s') := by
  refine rr_b (ha 0 _ _ hs) fun x s1 s1' h1 => ?_
  by_cases hc : 0 < x ∧ x < s1'.2.1 ∧ tK s1'.2.2 x.toNat = i.toNat
  · obtain ⟨k1, k2, k3⟩ := h1.2.2.2.1 x.toNat (by omega) (by omega)
    rw [if_pos hc, if_pos ⟨by omega, by rw [h1.2.1]; exact hc.2.1, by rw [k1]; exact hc.2.2⟩, k2]
    exact rr_s h1
  · rw [if_neg hc]
    exact rr_n
theorem e_8 (hcl : CI L xs cl cl') (hb : EI L xs cl cl' F b) (hs : Rs L xs s s') : RR L xs (ev pft cl F pS (nd 8 i a b) g s) (et cl' F (nd 8 i a b) g s') := by
  refine rr_a (hb 0 _ _ hs) fun vs s1 s1' h1 => ?_
  cases hq : cl' i.toNat vs s1'.2.1 s1'.2.2 with
  | none => exact rr_n
  | some p =>
    obtain ⟨r, n, T⟩ := p
    obtain ⟨h', z1, z2⟩ := hcl _ _ _ _ _ _ _ h1.2 hq
    rw [z1]
    exact rr_s ⟨h1.1, z2⟩
theorem e_10 (hcl : CI L xs cl cl') (hb : EI L xs cl cl' F b) (hs : Rs L xs s s') : RR L xs (ev pft cl F pS (nd 10 i a b) g s) (et cl' F (nd 10 i a b) g s') := by
  refine rr_new hs.2 fun T hT => ?_
  show RR L xs (xa (ev pft cl F pS b 0 (s.1, hnew pft s.2 (10 + i.toNat / 1000) 0)) _) (ta (et cl' F b 0 (s'.1, s'.2.1 + 1, T)) _)
  refine rr_a (hb 0 _ _ ⟨hs.1, hT⟩) fun vs s1 s1' h1 => ?_
  rw [hs.2.1]
  cases hq : cl' (i.toNat % 1000) ((s'.2.1 : Int) :: vs) s1'.2.1 s1'.2.2 with
  | none => exact rr_n
  | some p =>
    obtain ⟨r, n, T⟩ := p
    obtain ⟨h', z1, z2⟩ := hcl _ _ _ _ _ _ _ h1.2 hq
    rw [z1]
    cases r with
    | nil => exact rr_s ⟨h1.1, z2⟩
    | cons x r => exact rr_n
theorem e_12 (ha : EI L xs cl cl' F a) (hs : Rs L xs s s') : RR L xs (ev pft cl F pS (nd 12 i a b) g s) (et cl' F (nd 12 i a b) g s') := by
  refine rr_b (ha 0 _ _ hs) fun x s1 s1' h1 => rr_if (fun _ => ?_) (fun _ => rr_n)
  refine rr_new h1.2 fun T hT => ?_
  rw [h1.2.1]
  exact rr_s ⟨h1.1, hT⟩
theorem e_13 (hb : EI L xs cl cl' F b) (hs : Rs L xs s s') : RR L xs (ev pft cl F pS (nd 13 i a b) g s) (et cl' F (nd 13 i a b) g s') := by
  refine rr_new hs.2 fun T hT => ?_
  show RR L xs (xa (ev pft cl F pS b s.2.1 (s.1, hnew pft s.2 (i.toNat / 1000) (i.toNat % 1000))) _) (ta (et cl' F b s'.2.1 (s'.1, s'.2.1 + 1, T)) _)
  rw [hs.2.1]
  refine rr_a (hb _ _ _ ⟨hs.1, hT⟩) fun vs s1 s1' h1 => ?_
  exact rr_s h1
theorem e_14 (ha : EI L xs cl cl' F a) (hb : EI L xs cl cl' F b) (hs : Rs L xs s s') : RR L xs (ev pft cl F pS (nd 14 i a b) g s) (et cl' F (nd 14 i a b) g s') := by
  refine rr_b (ha 0 _ _ hs) fun z s1 s1' h1 => ?_
  cases hq : tat s1'.2.1 s1'.2.2 1 g i with
  | none => exact rr_n
  | some p =>
    obtain ⟨p, q⟩ := p
    obtain ⟨z1, z2, z3⟩ := tat_ok h1.2 hq
    rw [z1]
    exact rr_put h1.2 z2 fun _ T hT => hb _ _ _ ⟨h1.1, hT⟩
theorem e_20 (ha : EI L xs cl cl' F a) (hb : EI L xs cl cl' F b) (hs : Rs L xs s s') : RR L xs (ev pft cl F pS (nd 20 i a b) g s) (et cl' F (nd 20 i a b) g s') :=
  rr_b (ha 0 _ _ hs) fun _ _ _ h1 => rr_b (hb 0 _ _ h1) fun _ _ _ h2 => rr_s h2
theorem e_21 (ha : EI L xs cl cl' F a) (hs : Rs L xs s s') : RR L xs (ev pft cl F pS (nd 21 i a b) g s) (et cl' F (nd 21 i a b) g s') :=
  rr_b (ha 0 _ _ hs) fun _ _ _ h1 => rr_s h1
theorem e_23 (ha : EI L xs cl cl' F a) (hb : EI L xs cl cl' F b) (hs : Rs L xs s s') : RR L xs (ev pft cl F pS (nd 23 i a b) g s) (et cl' F (nd 23 i a b) g s') :=
  rr_b (ha 0 _ _ hs) fun _ _ _ h1 => rr_if (fun _ => hb 0 _ _ h1) (fun _ => rr_s h1)
theorem e_24 (ha : EI L xs cl cl' F a) (hb : EI L xs cl cl' F b) (hs : Rs L xs s s') : RR L xs (ev pft cl F pS (nd 24 i a b) g s) (et cl' F (nd 24 i a b) g s') :=
  rr_b (ha 0 _ _ hs) fun _ _ _ h1 => rr_if (fun _ => rr_s h1) (fun _ => hb 0 _ _ h1)
theorem e_27 (ha : EI L xs cl cl' F a) (hb : EI L xs cl cl' F b) (hs : Rs L xs s s') : RR L xs (ev pft cl F pS (nd 27 i a b) g s) (et cl' F (nd 27 i a b) g s') :=
  rr_b (ha 0 _ _ hs) fun _ _ _ h1 => rr_if (fun _ => rr_nz (hb 0 _ _ h1)) (fun _ => rr_s h1)
theorem e_31 (ha : EI L xs cl cl' F a) (hb : EI L xs cl cl' F b) (hs : Rs L xs s s') : RR L xs (ev pft cl F pS (nd 31 i a b) g s) (et cl' F (nd 31 i a b) g s') :=
  rr_q (ha 0 _ _ hs) fun _ _ h1 => hb 0 _ _ h1
theorem e_32 (hb : EI L xs cl cl' F b) (hs : Rs L xs s s') : RR L xs (ev pft cl F pS (nd 32 i a b) g s) (et cl' F (nd 32 i a b) g s') := by
  refine rr_b (hb 0 _ _ hs) fun x s1 s1' h1 => ?_
  rw [h1.1]
  exact rr_if (fun _ => rr_s ⟨rfl, h1.2⟩) (fun _ => rr_n)
theorem e_33 (hs : Rs L xs s s') : RR L xs (ev pft cl F pS (nd 33 i a b) g s) (et cl' F (nd 33 i a b) g s') := by
  obtain ⟨Lo, h⟩ := s
  obtain ⟨Lo', n, T⟩ := s'
  obtain ⟨e1, e2⟩ := hs
  cases e1
  intro c v s2 e
  replace e : (match Lo[i.toNat / 65536]? with | some (0, n1) => some (0, [], (lset Lo (i.toNat / 65536) 0 (w32 (n1 + (i % 65536 - 32768))), n, T)) | _ => (none : Option tR)) = some (c, v, s2) := e
  split at e
  · rename_i n1 hq
    cases e
    refine ⟨(lset Lo (i.toNat / 65536) 0 (w32 (n1 + (i % 65536 - 32768))), h), ?_, rfl, e2⟩
    show (match Lo[i.toNat / 65536]? with | some (0, n) => some (0, [], (lset Lo (i.toNat / 65536) 0 (w32 (n + (i % 65536 - 32768))), h)) | _ => (none : Option xR)) = _
    rw [hq]
    rfl
  · cases e
theorem e_34 (ha : EI L xs cl cl' F a) (hb : EI L xs cl cl' F b) (hs : Rs L xs s s') : RR L xs (ev pft cl F pS (nd 34 i a b) g s) (et cl' F (nd 34 i a b) g s') := by
  refine rr_b (ha 0 _ _ hs) fun x s1 s1' h1 => rr_b (hb 0 _ _ h1) fun y s2 s2' h2 => ?_
  cases hq : tob s2'.2.1 s2'.2.2 (i.toNat / 1000) x with
  | none => exact rr_n
  | some p =>
    obtain ⟨z1, z2, z3⟩ := tob_ok h2.2 hq
    rw [z1]
    show RR L xs (if pS ≤ p ∧ xfit (pft (i.toNat / 1000) (i.toNat % 1000)) y = true then some (0, [], (s2.1, hput s2.2 p (i.toNat % 1000) y)) else none) (if xfit (pft (i.toNat / 1000) (i.toNat % 1000)) y = true then tput s2'.2.2 p (i.toNat % 1000) y (fun T => some (0, [], (s2'.1, s2'.2.1, T))) else none)
    by_cases hf : xfit (pft (i.toNat / 1000) (i.toNat % 1000)) y = true
    · rw [if_pos hf]
      have := rr_put (L := L) (xs := xs) (r := some (0, [], (s2.1, hput s2.2 p (i.toNat % 1000) y))) (q := i.toNat % 1000) (v := y) (K := fun T => some (0, [], (s2'.1, s2'.2.1, T))) h2.2 z2 fun _ T hT => rr_s ⟨h2.1, hT⟩
      by_cases hp : pS ≤ p
      · rw [if_pos ⟨hp, hf⟩]
        rw [if_pos hp] at this
        exact this
      · rw [if_neg (fun z => hp z.1)]
        rw [if_neg hp] at this
        exact this
    · rw [if_neg hf]
      exact rr_n
theorem e_36 (ha : EI L xs cl cl' F a) (hs : Rs L xs s s') : RR L xs (ev pft cl F pS (nd 36 i a b) g s) (et cl' F (nd 36 i a b) g s') := by
  intro c v s2 e
  replace e : (match et cl' F a 0 s' with | some (0, [], s1) => some (0, [], s1) | _ => (none : Option tR)) = some (c, v, s2) := e
  split at e
  · rename_i s1 hq
    obtain ⟨t1, f1, g1⟩ := ha 0 _ _ hs _ _ _ hq
    cases e
    refine ⟨t1, ?_, g1⟩
    show (match ev pft cl F pS a 0 s with | some (0, [], s1) => some (0, [], s1) | _ => (none : Option xR)) = _
    rw [f1]
    rfl
  · cases e
theorem e_37 (ha : EI L xs cl cl' F a) (hs : Rs L xs s s') : RR L xs (ev pft cl F pS (nd 37 i a b) g s) (et cl' F (nd 37 i a b) g s') :=
  rr_b (ha 0 _ _ hs) fun _ _ _ h1 => rr_s h1
theorem e_38 (ha : EI L xs cl cl' F a) (hb : EI L xs cl cl' F b) (hs : Rs L xs s s') : RR L xs (ev pft cl F pS (nd 38 i a b) g s) (et cl' F (nd 38 i a b) g s') :=
  rr_b (ha 0 _ _ hs) fun _ _ _ h1 => rr_if (fun _ => hb 0 _ _ h1) (fun _ => rr_s h1)
theorem e_47 (hb : EI L xs cl cl' F b) (hs : Rs L xs s s') : RR L xs (ev pft cl F pS (nd 47 i a b) g s) (et cl' F (nd 47 i a b) g s') :=
  rr_b (hb 0 _ _ hs) fun _ _ _ h1 => rr_s h1
theorem e_54 (ha : EI L xs cl cl' F a) (hb : EI L xs cl cl' F b) (hs : Rs L xs s s') : RR L xs (ev pft cl F pS (nd 54 i a b) g s) (et cl' F (nd 54 i a b) g s') := by
  refine rr_b (ha 0 _ _ hs) fun x s1 s1' h1 => ?_
  cases hq : tob s1'.2.1 s1'.2.2 (i.toNat % 1000000 / 1000) x with
  | none => exact rr_n
  | some p =>
    obtain ⟨z1, z2, z3⟩ := tob_ok h1.2 hq
    rw [z1]
    refine rr_b (hb 0 _ _ h1) fun y s2 s2' h2 => ?_
    rw [(h1.2.2.2.1 p z2 z3).2.2]
    generalize xbin (i.toNat / 1000000) (tM s1'.2.2 p (i.toNat % 1000)) y = w
    cases w with
    | none => exact rr_n
    | some w =>
      cases hq2 : tob s2'.2.1 s2'.2.2 (i.toNat % 1000000 / 1000) x with
      | none => exact rr_n
      | some p2 =>
        obtain ⟨y1, y2, y3⟩ := tob_ok h2.2 hq2
        rw [y1]
        have hpp : p2 = p := by
          unfold tob at hq hq2
          split at hq
          · split at hq2
            · cases hq; cases hq2; rfl
            · cases hq2
          · cases hq
        subst hpp
        exact rr_put h2.2 y2 fun _ T hT => rr_s ⟨h2.1, hT⟩
theorem e_56 (hs : Rs L xs s s') : RR L xs (ev pft cl F pS (nd 56 i a b) g s) (et cl' F (nd 56 i a b) g s') := by
  intro c v s2 e
  replace e : (match (s'.1 : List (Nat × Int))[0]? with | some (2, n) => if (0 : Int) ≤ n then some (0, [], s') else none | _ => (none : Option tR)) = some (c, v, s2) := e
  split at e
  · rename_i n1 hq
    split at e
    · rename_i hn
      cases e
      refine ⟨s, ?_, hs⟩
      show (match (s.1 : List (Nat × Int))[0]? with | some (2, n) => if (0 : Int) ≤ n then some (0, [], s) else none | _ => (none : Option xR)) = _
      rw [hs.1, hq]
      exact if_pos hn
    · cases e
  · cases e
theorem e_58 (ha : EI L xs cl cl' F a) (hb : EI L xs cl cl' F b) (hs : Rs L xs s s') : RR L xs (ev pft cl F pS (nd 58 i a b) g s) (et cl' F (nd 58 i a b) g s') :=
  rr_b (ha 0 _ _ hs) fun _ _ _ h1 => rr_a (hb 0 _ _ h1) fun _ _ _ h2 => rr_s h2
theorem e_59 (hb : EI L xs cl cl' F b) (hs : Rs L xs s s') : RR L xs (ev pft cl F pS (nd 59 i a b) g s) (et cl' F (nd 59 i a b) g s') := by
  refine rr_a (hb 0 _ _ hs) fun vs s1 s1' h1 => ?_
  intro c v s2 e
  split at e
  · rename_i src sp dst dp n
    split at e
    · rename_i hc
      obtain ⟨c1, c2, c3, c4, c5, c6, c7, c8, c9, c10, c11, c12⟩ := hc
      obtain ⟨T', e1, e2⟩ := tcp_ok h1.2 (by omega) (by omega) (by omega) c12 (by omega) _ _ _ e
      cases e1
      obtain ⟨k1, k2, k3⟩ := h1.2.2.2.1 src.toNat (by omega) (by omega)
      obtain ⟨l1, l2, l3⟩ := h1.2.2.2.1 dst.toNat (by omega) (by omega)
      have hx : xcopy pS s1.2 src sp dst dp n = some _ := if_pos ⟨by omega, by rw [h1.2.1]; exact c2, by rw [k1]; exact c3, c1, c4, by rw [h1.2.1]; exact c5, by rw [l1]; exact c6, c7, c8, c9, by rw [k2]; exact c10, by rw [l2]; exact c11⟩
      refine ⟨(s1.1, hrow s1.2 dst.toNat (fun j => if dp.toNat ≤ j ∧ j < dp.toNat + n.toNat then s1.2.2.2.2 src.toNat (sp.toNat + (j - dp.toNat)) else s1.2.2.2.2 dst.toNat j)), ?_, h1.1, e2⟩
      · show (match xcopy pS s1.2 src sp dst dp n with | some h => some (0, [], (s1.1, h)) | none => (none : Option xR)) = _
        rw [hx]
    · cases e
  · cases e
theorem e_60 (hb : EI L xs cl cl' F b) (hs : Rs L xs s s') : RR L xs (ev pft cl F pS (nd 60 i a b) g s) (et cl' F (nd 60 i a b) g s') := by
  refine rr_a (hb 0 _ _ hs) fun vs s1 s1' h1 => ?_
  intro c v s2 e
  split at e
  · rename_i src sp dst dp n
    split at e
    · rename_i hc
      obtain ⟨c1, c2, c3, c4, c5, c6, c7, c8, c9, c10, c11, c12⟩ := hc
      have hn5 := h1.2.2.1
      obtain ⟨T', e1, e2⟩ := tcp_ok h1.2 (by omega) (by omega) (by omega) (by omega) (by omega) _ _ _ e
      cases e1
      obtain ⟨k1, k2, k3⟩ := h1.2.2.2.1 src.toNat (by omega) (by omega)
      obtain ⟨l1, l2, l3⟩ := h1.2.2.2.1 dst.toNat (by omega) (by omega)
      have hx : xcopyB pS s1.2 src sp dst dp n = some _ := if_pos ⟨by omega, c2, by rw [h1.2.1]; omega, by rw [k1]; exact c3, c4, by rw [h1.2.1]; exact c5, by rw [l1]; exact c6, c7, c8, c9, by rw [k2]; exact c10, by rw [l2]; exact c11, fun i hi => by rw [k3]; exact c12 i hi⟩
      refine ⟨(s1.1, hrow s1.2 dst.toNat (fun j => if dp.toNat ≤ j ∧ j < dp.toNat + n.toNat then s1.2.2.2.2 src.toNat (sp.toNat + (j - dp.toNat)) else s1.2.2.2.2 dst.toNat j)), ?_, h1.1, e2⟩
      · show (match xcopyB pS s1.2 src sp dst dp n with | some h => some (0, [], (s1.1, h)) | none => (none : Option xR)) = _
        rw [hx]
    · cases e
  · cases e
theorem e_9 (ha : EI L xs cl cl' F a) (hb : EI L xs cl cl' F b) (hc : EI L xs cl cl' F c) (hs : Rs L xs s s') (gg : Std.Format.FlattenBehavior) : RR L xs (ev pft cl F pS (.group (.tag 9 (.nest i (.append a (.append b c)))) gg) g s) (et cl' F (.group (.tag 9 (.nest i (.append a (.append b c)))) gg) g s') :=
  rr_b (ha 0 _ _ hs) fun _ _ _ h1 => rr_if (fun _ => hb 0 _ _ h1) (fun _ => hc 0 _ _ h1)
theorem e_39 (ha : EI L xs cl cl' F a) (hb : EI L xs cl cl' F b) (hc : EI L xs cl cl' F c) (hs : Rs L xs s s') (gg : Std.Format.FlattenBehavior) : RR L xs (ev pft cl F pS (.group (.tag 39 (.nest i (.append a (.append b c)))) gg) g s) (et cl' F (.group (.tag 39 (.nest i (.append a (.append b c)))) gg) g s') :=
  rr_b (ha 0 _ _ hs) fun _ _ _ h1 => rr_if (fun _ => hb 0 _ _ h1) (fun _ => hc 0 _ _ h1)
theorem e_40 (ha : EI L xs cl cl' F a) (hb : EI L xs cl cl' F b) (hc : EI L xs cl cl' F c) (hs : Rs L xs s s') (gg : Std.Format.FlattenBehavior) : RR L xs (ev pft cl F pS (.group (.tag 40 (.nest i (.append a (.append b c)))) gg) g s) (et cl' F (.group (.tag 40 (.nest i (.append a (.append b c)))) gg) g s') :=
  rr_b (ha 0 _ _ hs) fun _ _ _ h1 => rr_if (fun _ => rr_nz (hb 0 _ _ h1)) (fun _ => hc 0 _ _ h1)
theorem e_41 (ha : EI L xs cl cl' F a) (hb : EI L xs cl cl' F b) (hc : EI L xs cl cl' F c) (hs : Rs L xs s s') (gg : Std.Format.FlattenBehavior) : RR L xs (ev pft cl F pS (.group (.tag 41 (.nest i (.append a (.append b c)))) gg) g s) (et cl' F (.group (.tag 41 (.nest i (.append a (.append b c)))) gg) g s') :=
  rr_l (fun _ _ h => ha 0 _ _ h) (fun _ _ h => hb 0 _ _ h) (fun _ _ h => hc 0 _ _ h) F _ _ hs
theorem e_35 (ha : EI L xs cl cl' F a) (hb : EI L xs cl cl' F b) (hc : EI L xs cl cl' F c) (hs : Rs L xs s s') (gg : Std.Format.FlattenBehavior) : RR L xs (ev pft cl F pS (.group (.tag 35 (.nest i (.append a (.append b c)))) gg) g s) (et cl' F (.group (.tag 35 (.nest i (.append a (.append b c)))) gg) g s') := by
  refine rr_b (ha 0 _ _ hs) fun x s1 s1' h1 => rr_b (hb 0 _ _ h1) fun y s2 s2' h2 => rr_b (hc 0 _ _ h2) fun z s3 s3' h3 => ?_
  cases hq : tat s3'.2.1 s3'.2.2 i.toNat x y with
  | none => exact rr_n
  | some p =>
    obtain ⟨p, q⟩ := p
    obtain ⟨z1, z2, z3⟩ := tat_ok h3.2 hq
    rw [z1]
    exact rr_put h3.2 z2 fun _ T hT => rr_s ⟨h3.1, hT⟩
theorem et_ok (hcl : CI L xs cl cl') : (t : xT) → EI L xs cl cl' F t
  | .group (.tag k (.nest i (.append a (.append b c)))) gg => by
    have ha : EI L xs cl cl' F a := et_ok hcl a
    have hb : EI L xs cl cl' F b := et_ok hcl b
    have hc : EI L xs cl cl' F c := et_ok hcl c
    intro g s s' hs c1 v s2 e
    have e0 := e
    simp only [et] at e0
    split at e0
    · exact e_9 ha hb hc hs gg _ _ _ e
    · exact e_35 ha hb hc hs gg _ _ _ e
    · exact e_39 ha hb hc hs gg _ _ _ e
    · exact e_40 ha hb hc hs gg _ _ _ e
    · exact e_41 ha hb hc hs gg _ _ _ e
    · cases e0
  | .tag k (.nest i (.append a b)) => by
    have ha : EI L xs cl cl' F a := et_ok hcl a
    have hb : EI L xs cl cl' F b := et_ok hcl b
    intro g s s' hs c1 v s2 e
    have e0 := e
    simp only [et] at e0
    split at e0
    · exact rr_s hs _ _ _ e
    · exact rr_s hs _ _ _ e
    · exact rr_s hs _ _ _ e
    · exact rr_s hs _ _ _ e
    · exact rr_s hs _ _ _ e
    · exact e_2 hs _ _ _ e
    · exact e_3 ha hb hs _ _ _ e
    · exact e_4 ha hs _ _ _ e
    · exact e_5 ha hs _ _ _ e
    · exact e_6 ha hb hs _ _ _ e
    · exact e_7 ha hs _ _ _ e
    · exact e_8 hcl hb hs _ _ _ e
    · exact e_10 hcl hb hs _ _ _ e
    · exact e_12 ha hs _ _ _ e
    · exact e_13 hb hs _ _ _ e
    · exact e_14 ha hb hs _ _ _ e
    · exact e_20 ha hb hs _ _ _ e
    · exact e_21 ha hs _ _ _ e
    · exact e_23 ha hb hs _ _ _ e
    · exact e_24 ha hb hs _ _ _ e
    · exact e_27 ha hb hs _ _ _ e
    · exact rr_s hs _ _ _ e
    · exact e_31 ha hb hs _ _ _ e
    · exact e_32 hb hs _ _ _ e
    · exact e_33 hs _ _ _ e
    · exact e_34 ha hb hs _ _ _ e
    · exact e_36 ha hs _ _ _ e
    · exact e_37 ha hs _ _ _ e
    · exact e_38 ha hb hs _ _ _ e
    · exact e_47 hb hs _ _ _ e
    · exact rr_s hs _ _ _ e
    · exact e_54 ha hb hs _ _ _ e
    · exact e_56 hs _ _ _ e
    · exact rr_s hs _ _ _ e
    · exact e_58 ha hb hs _ _ _ e
    · exact e_59 hb hs _ _ _ e
    · exact e_60 hb hs _ _ _ e
    · cases e0
  | .nil => fun _ _ _ _ => rr_n
  | .line => fun _ _ _ _ => rr_n
  | .align _ => fun _ _ _ _ => rr_n
  | .text _ => fun _ _ _ _ => rr_n
  | .nest _ _ => fun _ _ _ _ => rr_n
  | .append _ _ => fun _ _ _ _ => rr_n
  | .tag _ .nil => fun _ _ _ _ => rr_n
  | .tag _ .line => fun _ _ _ _ => rr_n
  | .tag _ (.align _) => fun _ _ _ _ => rr_n
  | .tag _ (.text _) => fun _ _ _ _ => rr_n
  | .tag _ (.append _ _) => fun _ _ _ _ => rr_n
  | .tag _ (.group _ _) => fun _ _ _ _ => rr_n
  | .tag _ (.tag _ _) => fun _ _ _ _ => rr_n
  | .tag _ (.nest _ .nil) => fun _ _ _ _ => rr_n
  | .tag _ (.nest _ .line) => fun _ _ _ _ => rr_n
  | .tag _ (.nest _ (.align _)) => fun _ _ _ _ => rr_n
  | .tag _ (.nest _ (.text _)) => fun _ _ _ _ => rr_n
  | .tag _ (.nest _ (.nest _ _)) => fun _ _ _ _ => rr_n
  | .tag _ (.nest _ (.group _ _)) => fun _ _ _ _ => rr_n
  | .tag _ (.nest _ (.tag _ _)) => fun _ _ _ _ => rr_n
  | .group .nil _ => fun _ _ _ _ => rr_n
  | .group .line _ => fun _ _ _ _ => rr_n
  | .group (.align _) _ => fun _ _ _ _ => rr_n
  | .group (.text _) _ => fun _ _ _ _ => rr_n
  | .group (.nest _ _) _ => fun _ _ _ _ => rr_n
  | .group (.append _ _) _ => fun _ _ _ _ => rr_n
  | .group (.group _ _) _ => fun _ _ _ _ => rr_n
  | .group (.tag _ .nil) _ => fun _ _ _ _ => rr_n
  | .group (.tag _ .line) _ => fun _ _ _ _ => rr_n
  | .group (.tag _ (.align _)) _ => fun _ _ _ _ => rr_n
  | .group (.tag _ (.text _)) _ => fun _ _ _ _ => rr_n
  | .group (.tag _ (.append _ _)) _ => fun _ _ _ _ => rr_n
  | .group (.tag _ (.group _ _)) _ => fun _ _ _ _ => rr_n
  | .group (.tag _ (.tag _ _)) _ => fun _ _ _ _ => rr_n
  | .group (.tag _ (.nest _ .nil)) _ => fun _ _ _ _ => rr_n
  | .group (.tag _ (.nest _ .line)) _ => fun _ _ _ _ => rr_n
  | .group (.tag _ (.nest _ (.align _))) _ => fun _ _ _ _ => rr_n
  | .group (.tag _ (.nest _ (.text _))) _ => fun _ _ _ _ => rr_n
  | .group (.tag _ (.nest _ (.nest _ _))) _ => fun _ _ _ _ => rr_n
  | .group (.tag _ (.nest _ (.group _ _))) _ => fun _ _ _ _ => rr_n
  | .group (.tag _ (.nest _ (.tag _ _))) _ => fun _ _ _ _ => rr_n
  | .group (.tag _ (.nest _ (.append _ .nil))) _ => fun _ _ _ _ => rr_n
  | .group (.tag _ (.nest _ (.append _ .line))) _ => fun _ _ _ _ => rr_n
  | .group (.tag _ (.nest _ (.append _ (.align _)))) _ => fun _ _ _ _ => rr_n
  | .group (.tag _ (.nest _ (.append _ (.text _)))) _ => fun _ _ _ _ => rr_n
  | .group (.tag _ (.nest _ (.append _ (.nest _ _)))) _ => fun _ _ _ _ => rr_n
  | .group (.tag _ (.nest _ (.append _ (.group _ _)))) _ => fun _ _ _ _ => rr_n
  | .group (.tag _ (.nest _ (.append _ (.tag _ _)))) _ => fun _ _ _ _ => rr_n
/-- calls on both -/
theorem tcall_ok {mt : xM} (hmt : ∀ m x, mt m = some x → pmt m = some x) : ∀ d, CI L xs (xcall pft pmt F pS d) (tcall mt F d) := by
  intro d
  induction d with
  | zero => intro i vs h n T r q _ e; cases e
  | succ d ih =>
    intro i vs h n T r q H e
    unfold tcall at e
    split at e
    · rename_i nL ts rc rt t hm
      split at e
      · rename_i hc
        have hrc : xrecv h rc vs = true := by
          have z := hc.2
          unfold trecv at z
          unfold xrecv
          split at z
          · rfl
          · rename_i c v r2
            obtain ⟨p, hp⟩ := Option.isSome_iff_exists.mp z
            show (xob h c v).isSome = true
            rw [(tob_ok H hp).1]; rfl
          · cases z
        split at e
        · rename_i r2 s2 he
          obtain ⟨s3, f1, f2⟩ := et_ok ih t 0 (xargs ts vs ++ List.replicate (nL - (xargs ts vs).length) (9, 0), h) _ ⟨rfl, H⟩ _ _ _ he
          split at e
          · rename_i hr
            cases e
            refine ⟨s3.2, ?_, f2.2⟩
            unfold xcall
            rw [hmt _ _ hm]
            show (if vs.length = ts.length ∧ xrecv h rc vs = true then _ else _) = _
            rw [if_pos ⟨hc.1, hrc⟩, f1]
            exact if_pos hr
          · cases e
        · cases e
      · cases e
    · cases e
end ET
