/-! GATES, as functions -/
section Of
variable {L : Nat} {xs : Nat → Int32} {h : xH} {n : Nat} {T : tT}
theorem ob_of {p c ln cc : Nat} (H : Rh L xs h n T) (hn : p < n) (h5 : ¬ p < 50) (e : og T (p - 50) = some (10 + c, ln, cc)) : xob h c (p : Int) = some p ∧ ∀ k, h.2.2.2 p k = cg (10 + c) cc k := by
  obtain ⟨k1, k2, k3⟩ := H.2.2.1 p hn (by omega)
  obtain ⟨u1, u2, u3⟩ := tk_v h5 e
  refine ⟨?_, fun k => by rw [k3, u3]⟩
  unfold xob
  rw [if_pos ⟨by omega, by rw [H.1]; omega, by show h.2.1 p = _; rw [k1, u1]⟩]
  rfl
theorem at_of {p kd ln cc : Nat} {i : Int} (H : Rh L xs h n T) (hn : p < n) (h5 : ¬ p < 50) (e : og T (p - 50) = some (kd, ln, cc)) (h0 : 0 ≤ i) (h1 : i < ln) : xat h kd (p : Int) i = some (p, i.toNat) ∧ ∀ k, h.2.2.2 p k = cg kd cc k := by
  obtain ⟨k1, k2, k3⟩ := H.2.2.1 p hn (by omega)
  obtain ⟨u1, u2, u3⟩ := tk_v h5 e
  refine ⟨?_, fun k => by rw [k3, u3]⟩
  unfold xat
  rw [if_pos ⟨by omega, by rw [H.1]; omega, by show h.2.1 p = _; rw [k1, u1], h0, by show i < ((h.2.2.1 p : Nat) : Int); rw [k2, u2]; omega⟩]
  rfl
end Of
def gp : tC := fun vs n T => match vs with
  | [a, x, y] => if a = 73 then (match og T 23, og T 24, og T 25, og T 26 with
    | some (kd, _, nc), some (k1, l1, _), some (k2, l2, _), some (k3, l3, c3) => if kd = 16 ∧ k1 = 0 ∧ k2 = 0 ∧ k3 = 0 ∧ 77 ≤ n ∧ (4104 : Int) ≤ l1 ∧ (4104 : Int) ≤ l2 ∧ (4104 : Int) ≤ l3 then (if cg 16 nc 2 = 74 ∧ cg 16 nc 3 = 75 ∧ cg 16 nc 4 = 76 ∧ 0 ≤ x ∧ x < cg 16 nc 0 ∧ 0 ≤ y ∧ y < cg 16 nc 0 ∧ cg 16 nc 0 < 4104 ∧ 0 ≤ cg 0 c3 x.toNat ∧ cg 0 c3 x.toNat < 1000000 ∧ 0 ≤ cg 0 c3 y.toNat ∧ cg 0 c3 y.toNat < 1000000 ∧ 0 ≤ cg 16 nc 1 then
        (match tput T 74 (cg 16 nc 0).toNat x fun T1 => tput T1 75 (cg 16 nc 0).toNat y fun T2 => tput T2 76 (cg 16 nc 0).toNat (1 + (if cg 0 c3 y.toNat ≤ cg 0 c3 x.toNat then cg 0 c3 x.toNat else cg 0 c3 y.toNat)) fun T3 => tput T3 73 1 (if (1 + (if cg 0 c3 y.toNat ≤ cg 0 c3 x.toNat then cg 0 c3 x.toNat else cg 0 c3 y.toNat)) ≤ cg 16 nc 1 then cg 16 nc 1 else (1 + (if cg 0 c3 y.toNat ≤ cg 0 c3 x.toNat then cg 0 c3 x.toNat else cg 0 c3 y.toNat))) fun T4 => tput T4 73 0 (cg 16 nc 0 + 1) fun T5 => some (3, [cg 16 nc 0], ([], n, T5)) with
        | some (3, r, s) => some (r, s.2)
        | _ => none) else none) else none
    | _, _, _, _ => none) else none
  | _ => none
theorem gp_ok {L : Nat} {xs : Nat → Int32} {d F : Nat} (hd : 2 ≤ d) : CM L xs d F 113 gp := by
  obtain ⟨d, rfl⟩ : ∃ e, d = e + 2 := ⟨d - 2, by omega⟩
  intro vs h n T r q H e
  unfold gp at e
  split at e
  · rename_i a x y
    split at e
    · rename_i ha
      subst ha
      split at e
      · rename_i kd ln nc k1 l1 cc1 k2 l2 cc2 k3 l3 c3 t0 t1 t2 t3
        split at e
        · rename_i hc
          obtain ⟨rfl, rfl, rfl, rfl, hn, hl1, hl2, hl3⟩ := hc
          split at e
          · rename_i hb
            obtain ⟨r1, r2, r3, x0, x1, y0, y1, w1, b0, b1, c0, c1, _⟩ := hb
            split at e
            · rename_i rr ss hp
              cases e
              obtain ⟨o0, g0⟩ := ob_of (p := 73) (c := 6) H (by omega) (by decide) t0
              obtain ⟨A1, _⟩ := at_of (p := 74) (i := cg 16 nc 0) H (by omega) (by decide) t1 (by omega) (by omega)
              obtain ⟨A2, _⟩ := at_of (p := 75) (i := cg 16 nc 0) H (by omega) (by decide) t2 (by omega) (by omega)
              obtain ⟨A3, _⟩ := at_of (p := 76) (i := cg 16 nc 0) H (by omega) (by decide) t3 (by omega) (by omega)
              obtain ⟨A4, g3⟩ := at_of (p := 76) (i := x) H (by omega) (by decide) t3 (by omega) (by omega)
              obtain ⟨A5, _⟩ := at_of (p := 76) (i := y) H (by omega) (by decide) t3 (by omega) (by omega)
              obtain ⟨_, T1, k1, H1⟩ := tput_ok H (by omega) hp
              obtain ⟨_, T2, k2, H2⟩ := tput_ok H1 (by omega) k1
              obtain ⟨_, T3, k3, H3⟩ := tput_ok H2 (by omega) k2
              obtain ⟨_, T4, k4, H4⟩ := tput_ok H3 (by omega) k3
              obtain ⟨_, T5, k5, H5⟩ := tput_ok H4 (by omega) k4
              cases k5
              refine ⟨_, ?_, H5⟩
              show Cx F (d + 2) 113 [73, x, y] h = _
              rw [c_113h (show xrecv h 7 [73, x, y] = true by show (xob h 6 73).isSome = true; rw [show xob h 6 73 = some 73 from o0]; rfl)]
              exact gate_x o0 (g0 0) ((g0 2).trans r1) ((g0 3).trans r2) ((g0 4).trans r3) A1 A2 A3 A4 A5 x0 x1 y0 y1 w1 (g3 _) (g3 _) b0 b1 c0 c1 rfl (by rw [g0 1])
            · cases e
          · cases e
        · cases e
      · cases e
    · cases e
  · cases e
def gn : tC := fun vs n T => match vs with
  | [a, x, y] => if a = 158 then (match og T 108, og T 151, og T 152, og T 153 with
    | some (kd, _, nc), some (k1, l1, _), some (k2, l2, _), some (k3, l3, c3) => if kd = 21 ∧ k1 = 0 ∧ k2 = 0 ∧ k3 = 0 ∧ 204 ≤ n ∧ (9000 : Int) ≤ l1 ∧ (9000 : Int) ≤ l2 ∧ (9000 : Int) ≤ l3 then (if cg 21 nc 87 = 201 ∧ cg 21 nc 88 = 202 ∧ cg 21 nc 89 = 203 ∧ 0 ≤ x ∧ x < cg 21 nc 86 ∧ 0 ≤ y ∧ y < cg 21 nc 86 ∧ cg 21 nc 86 < 9000 ∧ 0 ≤ cg 0 c3 x.toNat ∧ cg 0 c3 x.toNat < 1000000 ∧ 0 ≤ cg 0 c3 y.toNat ∧ cg 0 c3 y.toNat < 1000000 ∧ 0 ≤ cg 21 nc 91 then
        (match tput T 201 (cg 21 nc 86).toNat x fun T1 => tput T1 202 (cg 21 nc 86).toNat y fun T2 => tput T2 203 (cg 21 nc 86).toNat (1 + (if cg 0 c3 y.toNat < cg 0 c3 x.toNat then cg 0 c3 x.toNat else cg 0 c3 y.toNat)) fun T3 => tput T3 158 91 (if cg 21 nc 91 < (1 + (if cg 0 c3 y.toNat < cg 0 c3 x.toNat then cg 0 c3 x.toNat else cg 0 c3 y.toNat)) then (1 + (if cg 0 c3 y.toNat < cg 0 c3 x.toNat then cg 0 c3 x.toNat else cg 0 c3 y.toNat)) else cg 21 nc 91) fun T4 => tput T4 158 86 (cg 21 nc 86 + 1) fun T5 => some (3, [cg 21 nc 86], ([], n, T5)) with
        | some (3, r, s) => some (r, s.2)
        | _ => none) else none) else none
    | _, _, _, _ => none) else none
  | _ => none
theorem gn_ok {L : Nat} {xs : Nat → Int32} {d F : Nat} (hd : 2 ≤ d) : CM L xs d F 291 gn := by
  obtain ⟨d, rfl⟩ : ∃ e, d = e + 2 := ⟨d - 2, by omega⟩
  intro vs h n T r q H e
  unfold gn at e
  split at e
  · rename_i a x y
    split at e
    · rename_i ha
      subst ha
      split at e
      · rename_i kd ln nc k1 l1 cc1 k2 l2 cc2 k3 l3 c3 t0 t1 t2 t3
        split at e
        · rename_i hc
          obtain ⟨rfl, rfl, rfl, rfl, hn, hl1, hl2, hl3⟩ := hc
          split at e
          · rename_i hb
            obtain ⟨r1, r2, r3, x0, x1, y0, y1, w1, b0, b1, c0, c1, _⟩ := hb
            split at e
            · rename_i rr ss hp
              cases e
              obtain ⟨o0, g0⟩ := ob_of (p := 158) (c := 11) H (by omega) (by decide) t0
              obtain ⟨A1, _⟩ := at_of (p := 201) (i := cg 21 nc 86) H (by omega) (by decide) t1 (by omega) (by omega)
              obtain ⟨A2, _⟩ := at_of (p := 202) (i := cg 21 nc 86) H (by omega) (by decide) t2 (by omega) (by omega)
              obtain ⟨A3, _⟩ := at_of (p := 203) (i := cg 21 nc 86) H (by omega) (by decide) t3 (by omega) (by omega)
              obtain ⟨A4, g3⟩ := at_of (p := 203) (i := x) H (by omega) (by decide) t3 (by omega) (by omega)
              obtain ⟨A5, _⟩ := at_of (p := 203) (i := y) H (by omega) (by decide) t3 (by omega) (by omega)
              obtain ⟨_, T1, k1, H1⟩ := tput_ok H (by omega) hp
              obtain ⟨_, T2, k2, H2⟩ := tput_ok H1 (by omega) k1
              obtain ⟨_, T3, k3, H3⟩ := tput_ok H2 (by omega) k2
              obtain ⟨_, T4, k4, H4⟩ := tput_ok H3 (by omega) k3
              obtain ⟨_, T5, k5, H5⟩ := tput_ok H4 (by omega) k4
              cases k5
              refine ⟨_, ?_, H5⟩
              show Cx F (d + 2) 291 [158, x, y] h = _
              rw [c_291h (show xrecv h 12 [158, x, y] = true by show (xob h 11 158).isSome = true; rw [show xob h 11 158 = some 158 from o0]; rfl)]
              exact nand_x o0 (g0 86) ((g0 87).trans r1) ((g0 88).trans r2) ((g0 89).trans r3) A1 A2 A3 A4 A5 x0 x1 y0 y1 w1 (g3 _) (g3 _) b0 b1 c0 c1 rfl (by rw [g0 91])
            · cases e
          · cases e
        · cases e
      · cases e
    · cases e
  · cases e
