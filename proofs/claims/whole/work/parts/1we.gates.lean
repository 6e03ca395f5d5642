/-! GATES, as functions -/
section Of
variable {L : Nat} {xs : Nat → Int32} {h : xH} {n : Nat} {T : tT}
theorem ob_of {p c ln cc : Nat} (H : Rh L xs h n T) (hn : p < n) (h5 : ¬ p < 50) (e : og T (p - 50) = some (10 + c, ln, cc)) : xob h c (p : Int) = some p ∧ ∀ k, h.2.2.2 p k = cg (10 + c) cc k := by
  obtain ⟨k1, k2, k3⟩ := H.2.2.1 p hn (by omega)
  obtain ⟨u1, u2, u3⟩ := tk_v h5 e
  refine ⟨?_, fun k => by rw [k3, u3]⟩
  unfold xob
  rw [if_pos ⟨by omega, by rw [H.1]; omega, by show h.2.1 p = _; rw [k1, u1]⟩]
  rfl
theorem at_of {p kd ln cc : Nat} {i : Int} (H : Rh L xs h n T) (hn : p < n) (h5 : ¬ p < 50) (e : og T (p - 50) = some (kd, ln, cc)) (h0 : 0 ≤ i) (h1 : i < ln) : xat h kd (p : Int) i = some (p, i.toNat) ∧ ∀ k, h.2.2.2 p k = cg kd cc k := by
  obtain ⟨k1, k2, k3⟩ := H.2.2.1 p hn (by omega)
  obtain ⟨u1, u2, u3⟩ := tk_v h5 e
  refine ⟨?_, fun k => by rw [k3, u3]⟩
  unfold xat
  rw [if_pos ⟨by omega, by rw [H.1]; omega, by show h.2.1 p = _; rw [k1, u1], h0, by show i < ((h.2.2.1 p : Nat) : Int); rw [k2, u2]; omega⟩]
  rfl
theorem tk_og {T' : tT} (e : ∀ j, og T j = og T' j) (a : Nat) : tK T a = tK T' a ∧ tL T a = tL T' a ∧ ∀ k, tM T a k = tM T' a k := tk_hi (e _)
theorem Rh_ext {T' : tT} (e : ∀ j, og T j = og T' j) (H : Rh L xs h n T) : Rh L xs h n T' := by
  refine ⟨H.1, H.2.1, fun a ha h0 => ?_, H.2.2.2⟩
  obtain ⟨k1, k2, k3⟩ := H.2.2.1 a ha h0
  obtain ⟨u1, u2, u3⟩ := tk_og e a
  exact ⟨by rw [← u1]; exact k1, by rw [← u2]; exact k2, fun k => by rw [← u3]; exact k3 k⟩
theorem put_of {p q kd ln c c' : Nat} {v : Int} (H : Rh L xs h n T) (h50 : 50 ≤ p) (ho : og T (p - 50) = some (kd, ln, c)) (hc : ∀ j', cg kd c' j' = if j' = q then v else cg kd c j') : Rh L xs (hput h p q v) n (oset T (p - 50) c') := by
  generalize hT' : oset T (p - 50) c' = T'
  have e4 : ∀ j', og T' j' = if j' = p - 50 then some (kd, ln, c') else og T j' := fun j' => by rw [← hT']; exact oset_ok j' ho
  refine ⟨H.1, H.2.1, fun a ha h0 => ?_, ⟨H.2.2.2.1.1, H.2.2.2.1.2.1, fun k => ?_⟩, H.2.2.2.2⟩
  · obtain ⟨k1, k2, k3⟩ := H.2.2.1 a ha h0
    by_cases hap2 : a = p
    · subst hap2
      obtain ⟨u1, u2, u3⟩ := tk_v (T := T) (by omega) ho
      obtain ⟨t1, t2, t3⟩ := tk_v (T := T') (a := a) (kd := kd) (ln := ln) (c := c') (by omega) (by rw [e4, if_pos rfl])
      refine ⟨by rw [t1, ← u1]; exact k1, by rw [t2, ← u2]; exact k2, fun k => ?_⟩
      show (if a = a then (if k = q then v else h.2.2.2 a k) else h.2.2.2 a k) = tM T' a k
      rw [if_pos rfl, t3, hc, k3, u3]
    · obtain ⟨u1, u2, u3⟩ : tK T a = tK T' a ∧ tL T a = tL T' a ∧ ∀ k, tM T a k = tM T' a k := by
        by_cases hap : a < 50
        · exact tk_lo hap
        · exact tk_hi (by rw [e4, if_neg (by omega)])
      refine ⟨by rw [← u1]; exact k1, by rw [← u2]; exact k2, fun k => ?_⟩
      show (if a = p then _ else h.2.2.2 a k) = _
      rw [if_neg hap2, ← u3]
      exact k3 k
  · show (if 0 = p then _ else h.2.2.2 0 k) = _
    rw [if_neg (by omega)]
    exact H.2.2.2.1.2.2 k
theorem cg_w {kd c j : Nat} (hk : wd kd = 32) {u : Nat} (hu : u < 2147483648) (j' : Nat) : cg kd (pkw 32 c j u) j' = if j' = j then (u : Int) else cg kd c j' := by
  unfold cg
  rw [hk, pkw_get 32 c u j' j (by omega)]
  by_cases e : j' = j
  · rw [if_pos e, if_pos e]
    unfold pkd
    rw [bf_blt, if_pos (show u < Nat.pow 2 (32 - 1) from hu)]
    rfl
  · rw [if_neg e, if_neg e]
theorem cg_r {kd c j : Nat} (hk : wd kd = 32) (hu : pku 32 c j < 2147483648) : cg kd c j = (pku 32 c j : Int) := by
  unfold cg pkd
  rw [hk, bf_blt, if_pos (show pku 32 c j < Nat.pow 2 (32 - 1) from hu)]
  rfl
end Of
def ldr {α : Type} : List α → Nat → List α
  | l, 0 => l
  | [], _ + 1 => []
  | _ :: r, n + 1 => ldr r n
def ovr {α : Type} : List α → List α → List α
  | _ :: r, y :: ys => y :: ovr r ys
  | l, [] => l
  | [], _ :: _ => []
def lrp {α : Type} : List α → Nat → List α → List α
  | l, 0, ys => ovr l ys
  | [], _ + 1, _ => []
  | x :: r, n + 1, ys => x :: lrp r n ys
theorem ldr_0 {α : Type} (l : List α) : ldr l 0 = l := by cases l <;> rfl
theorem lrp_0 {α : Type} (l ys : List α) : lrp l 0 ys = ovr l ys := by cases l <;> rfl
theorem ovr_n {α : Type} (l : List α) : ovr l [] = l := by cases l <;> rfl
theorem lnt_ldr {α : Type} : ∀ (l : List α) (p i : Nat), lnt l (p + i) = lnt (ldr l p) i
  | l, 0, i => by rw [Nat.zero_add, ldr_0]
  | [], p + 1, i => by
    rw [show p + 1 + i = (p + i) + 1 by omega]; rfl
  | x :: r, p + 1, i => by
    rw [show p + 1 + i = (p + i) + 1 by omega]
    exact lnt_ldr r p i
theorem lnt_lrp {α : Type} {ys : List α} : ∀ (l : List α) (p j : Nat), ldr l p ≠ [] → lnt (lrp l p ys) j = if j < p then lnt l j else lnt (ovr (ldr l p) ys) (j - p)
  | l, 0, j, _ => by
    rw [if_neg (by omega), ldr_0, lrp_0]; rfl
  | [], p + 1, j, h => absurd rfl h
  | x :: r, p + 1, j, h => by
    cases j with
    | zero => rw [if_pos (by omega)]; rfl
    | succ j =>
      show lnt (lrp r p ys) j = _
      rw [lnt_lrp r p j h]
      by_cases e : j < p
      · rw [if_pos e, if_pos (by omega)]; rfl
      · rw [if_neg e, if_neg (by omega), show j + 1 - (p + 1) = j - p by omega]; rfl
def gp : tC := fun vs n T => match vs with
  | [.ofNat a, .ofNat x, .ofNat y] => (match lnt T 1 with
    | some r => (match ldr r 7 with
      | (kd, l0, nc) :: (k1, l1, c1) :: (k2, l2, c2) :: (k3, l3, c3) :: _ =>
        bif (Nat.beq a 73 && (Nat.beq kd 16 && (Nat.beq k1 0 && (Nat.beq k2 0 && (Nat.beq k3 0 && (Nat.ble 77 n && (Nat.beq l1 4104 && (Nat.beq l2 4104 && (Nat.beq l3 4104 && (Nat.beq (pku 32 nc 2) 74 && (Nat.beq (pku 32 nc 3) 75 && (Nat.beq (pku 32 nc 4) 76 && (Nat.blt x (pku 32 nc 0) && (Nat.blt y (pku 32 nc 0) && (Nat.blt (pku 32 nc 0) 4104 && (Nat.blt (pku 32 c3 x) 1000000 && (Nat.blt (pku 32 c3 y) 1000000 && (Nat.blt (pku 32 nc 1) 2000000 && (Nat.ble 0 (pkw 32 c1 (pku 32 nc 0) x) && (Nat.ble 0 (pkw 32 c2 (pku 32 nc 0) y)))))))))))))))))))))
        then some ([Int.ofNat (pku 32 nc 0)], n, lst T 1 (lrp r 7 [(kd, l0, pkw 32 (pkw 32 nc 1 (bif Nat.ble (Nat.succ (bif Nat.ble (pku 32 c3 y) (pku 32 c3 x) then pku 32 c3 x else pku 32 c3 y)) (pku 32 nc 1) then pku 32 nc 1 else Nat.succ (bif Nat.ble (pku 32 c3 y) (pku 32 c3 x) then pku 32 c3 x else pku 32 c3 y))) 0 (Nat.succ (pku 32 nc 0))), (k1, l1, pkw 32 c1 (pku 32 nc 0) x), (k2, l2, pkw 32 c2 (pku 32 nc 0) y), (k3, l3, pkw 32 c3 (pku 32 nc 0) (Nat.succ (bif Nat.ble (pku 32 c3 y) (pku 32 c3 x) then pku 32 c3 x else pku 32 c3 y)))]))
        else none
      | _ => none)
    | none => none)
  | _ => none
theorem bif_ble {a b : Nat} {α : Type} {x y : α} : (bif Nat.ble a b then x else y) = if a ≤ b then x else y := by
  by_cases h : a ≤ b
  · rw [if_pos h, Nat.ble_eq.mpr h]; rfl
  · rw [if_neg h]
    have : Nat.ble a b = false := by
      cases e : Nat.ble a b with
      | false => rfl
      | true => exact absurd (Nat.le_of_ble_eq_true e) h
    rw [this]; rfl
theorem gp_ok {L : Nat} {xs : Nat → Int32} {d F : Nat} (hd : 2 ≤ d) : CM L xs d F 113 gp := by
  obtain ⟨d, rfl⟩ : ∃ e, d = e + 2 := ⟨d - 2, by omega⟩
  intro vs h n T r q H e
  unfold gp at e
  split at e
  · rename_i a x y
    split at e
    · rename_i r0 hr0
      split at e
      · rename_i kd l0 nc k1 l1 c1 k2 l2 c2 k3 l3 c3 tl hl
        cases hb : (Nat.beq a 73 && (Nat.beq kd 16 && (Nat.beq k1 0 && (Nat.beq k2 0 && (Nat.beq k3 0 && (Nat.ble 77 n && (Nat.beq l1 4104 && (Nat.beq l2 4104 && (Nat.beq l3 4104 && (Nat.beq (pku 32 nc 2) 74 && (Nat.beq (pku 32 nc 3) 75 && (Nat.beq (pku 32 nc 4) 76 && (Nat.blt x (pku 32 nc 0) && (Nat.blt y (pku 32 nc 0) && (Nat.blt (pku 32 nc 0) 4104 && (Nat.blt (pku 32 c3 x) 1000000 && (Nat.blt (pku 32 c3 y) 1000000 && (Nat.blt (pku 32 nc 1) 2000000 && (Nat.ble 0 (pkw 32 c1 (pku 32 nc 0) x) && (Nat.ble 0 (pkw 32 c2 (pku 32 nc 0) y))))))))))))))))))))) with
        | false => rw [hb] at e; cases e
        | true =>
          rw [hb] at e
          simp only [Bool.and_eq_true] at hb
          obtain ⟨t1, t2, t3, t4, t5, t6, t7, t8, t9, t10, t11, t12, t13, t14, t15, t16, t17, t18, _, _⟩ := hb
          have u1 := Nat.eq_of_beq_eq_true t1
          have u2 := Nat.eq_of_beq_eq_true t2
          have u3 := Nat.eq_of_beq_eq_true t3
          have u4 := Nat.eq_of_beq_eq_true t4
          have u5 := Nat.eq_of_beq_eq_true t5
          have u6 : 77 ≤ n := Nat.le_of_ble_eq_true t6
          have u7 := Nat.eq_of_beq_eq_true t7
          have u8 := Nat.eq_of_beq_eq_true t8
          have u9 := Nat.eq_of_beq_eq_true t9
          have u10 := Nat.eq_of_beq_eq_true t10
          have u11 := Nat.eq_of_beq_eq_true t11
          have u12 := Nat.eq_of_beq_eq_true t12
          have u13 : x < pku 32 nc 0 := Nat.le_of_ble_eq_true t13
          have u14 : y < pku 32 nc 0 := Nat.le_of_ble_eq_true t14
          have u15 : pku 32 nc 0 < 4104 := Nat.le_of_ble_eq_true t15
          have u16 : pku 32 c3 x < 1000000 := Nat.le_of_ble_eq_true t16
          have u17 : pku 32 c3 y < 1000000 := Nat.le_of_ble_eq_true t17
          have u18 : pku 32 nc 1 < 2000000 := Nat.le_of_ble_eq_true t18
          clear t1 t2 t3 t4 t5 t6 t7 t8 t9 t10 t11 t12 t13 t14 t15 t16 t17 t18
          subst u1; subst u2; subst u3; subst u4; subst u5; subst u7; subst u8; subst u9
          rw [bif_ble, bif_ble] at e
          generalize hw : pku 32 nc 0 = w at *
          generalize hdx : pku 32 c3 x = dx at *
          generalize hdy : pku 32 c3 y = dy at *
          generalize hg : pku 32 nc 1 = gg at *
          generalize hD : Nat.succ (if dy ≤ dx then dx else dy) = D at *
          have hDb : D ≤ 1000000 := by rw [← hD]; split <;> omega
          generalize hM : (if D ≤ gg then gg else D) = M at *
          have hMb : M < 2000001 := by rw [← hM]; split <;> omega
          cases e
          have w16 : wd 16 = 32 := rfl
          have w0 : wd 0 = 32 := rfl
          have o23 : og T 23 = some (16, l0, nc) := by
            show (match lnt T 1 with | some r => lnt r 7 | none => none) = _
            rw [hr0]; show lnt r0 (7 + 0) = _; rw [lnt_ldr, hl]; rfl
          have o24 : og T 24 = some (0, 4104, c1) := by
            show (match lnt T 1 with | some r => lnt r 8 | none => none) = _
            rw [hr0]; show lnt r0 (7 + 1) = _; rw [lnt_ldr, hl]; rfl
          have o25 : og T 25 = some (0, 4104, c2) := by
            show (match lnt T 1 with | some r => lnt r 9 | none => none) = _
            rw [hr0]; show lnt r0 (7 + 2) = _; rw [lnt_ldr, hl]; rfl
          have o26 : og T 26 = some (0, 4104, c3) := by
            show (match lnt T 1 with | some r => lnt r 10 | none => none) = _
            rw [hr0]; show lnt r0 (7 + 3) = _; rw [lnt_ldr, hl]; rfl
          obtain ⟨O0, g0⟩ := ob_of (p := 73) (c := 6) H (by omega) (by decide) o23
          obtain ⟨A1, _⟩ := at_of (p := 74) (i := (w : Int)) H (by omega) (by decide) o24 (by omega) (by omega)
          obtain ⟨A2, _⟩ := at_of (p := 75) (i := (w : Int)) H (by omega) (by decide) o25 (by omega) (by omega)
          obtain ⟨A3, _⟩ := at_of (p := 76) (i := (w : Int)) H (by omega) (by decide) o26 (by omega) (by omega)
          obtain ⟨A4, g3⟩ := at_of (p := 76) (i := (x : Int)) H (by omega) (by decide) o26 (by omega) (by omega)
          obtain ⟨A5, _⟩ := at_of (p := 76) (i := (y : Int)) H (by omega) (by decide) o26 (by omega) (by omega)
          have f0 : h.2.2.2 73 0 = (w : Int) := by rw [g0, cg_r w16 (by rw [hw]; omega), hw]
          have f1 : h.2.2.2 73 1 = (gg : Int) := by rw [g0, cg_r w16 (by rw [hg]; omega), hg]
          have f2 : h.2.2.2 73 2 = 74 := by rw [g0, cg_r w16 (by rw [u10]; decide), u10]; rfl
          have f3 : h.2.2.2 73 3 = 75 := by rw [g0, cg_r w16 (by rw [u11]; decide), u11]; rfl
          have f4 : h.2.2.2 73 4 = 76 := by rw [g0, cg_r w16 (by rw [u12]; decide), u12]; rfl
          have e1 : h.2.2.2 76 x = (dx : Int) := by rw [g3, cg_r w0 (by rw [hdx]; omega), hdx]
          have e2 : h.2.2.2 76 y = (dy : Int) := by rw [g3, cg_r w0 (by rw [hdy]; omega), hdy]
          have H1 := put_of (p := 74) (q := w) (v := (x : Int)) H (by decide) o24 (cg_w w0 (by omega))
          have p25 : og (oset T (74 - 50) (pkw 32 c1 w x)) 25 = some (0, 4104, c2) := by rw [oset_ok 25 o24, if_neg (by decide)]; exact o25
          have H2 := put_of (p := 75) (q := w) (v := (y : Int)) H1 (by decide) p25 (cg_w w0 (by omega))
          have p26 : og (oset (oset T (74 - 50) (pkw 32 c1 w x)) (75 - 50) (pkw 32 c2 w y)) 26 = some (0, 4104, c3) := by rw [oset_ok 26 p25, if_neg (by decide), oset_ok 26 o24, if_neg (by decide)]; exact o26
          have H3 := put_of (p := 76) (q := w) (v := (D : Int)) H2 (by decide) p26 (cg_w w0 (by omega))
          have p23 : og (oset (oset (oset T (74 - 50) (pkw 32 c1 w x)) (75 - 50) (pkw 32 c2 w y)) (76 - 50) (pkw 32 c3 w D)) 23 = some (16, l0, nc) := by rw [oset_ok 23 p26, if_neg (by decide), oset_ok 23 p25, if_neg (by decide), oset_ok 23 o24, if_neg (by decide)]; exact o23
          have H4 := put_of (p := 73) (q := 1) (v := (M : Int)) H3 (by decide) p23 (cg_w w16 (by omega))
          have p23' : og (oset (oset (oset (oset T (74 - 50) (pkw 32 c1 w x)) (75 - 50) (pkw 32 c2 w y)) (76 - 50) (pkw 32 c3 w D)) (73 - 50) (pkw 32 nc 1 M)) 23 = some (16, l0, pkw 32 nc 1 M) := by rw [oset_ok 23 p23, if_pos (by decide)]
          have H5 := put_of (p := 73) (q := 0) (v := ((Nat.succ w : Nat) : Int)) H4 (by decide) p23' (cg_w w16 (by omega))
          have hx0 : (0 : Int) ≤ (x : Int) := by omega
          have hx1 : (x : Int) < (w : Int) := by omega
          have hy0 : (0 : Int) ≤ (y : Int) := by omega
          have hy1 : (y : Int) < (w : Int) := by omega
          have hw1 : (w : Int) < 4104 := by omega
          refine ⟨_, ?_, Rh_ext (fun j => ?_) H5⟩
          · show Cx F (d + 2) 113 [73, (x : Int), (y : Int)] h = _
            rw [c_113h (show xrecv h 7 [73, (x : Int), (y : Int)] = true by show (xob h 6 73).isSome = true; rw [show xob h 6 73 = some 73 from O0]; rfl)]
            exact gate_x O0 f0 f2 f3 f4 A1 A2 A3 A4 A5 hx0 hx1 hy0 hy1 hw1 e1 e2 (by omega) (by omega) (by omega) (by omega) (by rw [← hD]; split <;> (first | (rw [if_pos (by omega)]; omega) | (rw [if_neg (by omega)]; omega))) (by rw [f1, ← hM]; split <;> (first | (rw [if_pos (by omega)]) | (rw [if_neg (by omega)])))
          · rw [oset_ok j p23', oset_ok j p23, oset_ok j p26, oset_ok j p25, oset_ok j o24]
            show _ = (match lnt (lst T 1 (lrp r0 7 _)) (j / 16) with | some r => lnt r (j % 16) | none => none)
            rw [lst_ok hr0]
            by_cases ej : j / 16 = 1
            · rw [if_pos ej]
              show _ = lnt (lrp r0 7 _) (j % 16)
              rw [lnt_lrp r0 7 (j % 16) (by rw [hl]; simp), hl]
              have hog : og T j = lnt r0 (j % 16) := by unfold og; rw [ej, hr0]
              by_cases e7 : j % 16 < 7
              · rw [if_pos e7, if_neg (by omega), if_neg (by omega), if_neg (by omega), if_neg (by omega), if_neg (by omega), hog]
              · rw [if_neg e7]
                have hog2 : lnt r0 (j % 16) = lnt ((16, l0, nc) :: (0, 4104, c1) :: (0, 4104, c2) :: (0, 4104, c3) :: tl) (j % 16 - 7) := by
                  rw [← hl, ← lnt_ldr, show 7 + (j % 16 - 7) = j % 16 by omega]
                rw [hog, hog2]
                rcases (by omega : j % 16 - 7 = 0 ∨ j % 16 - 7 = 1 ∨ j % 16 - 7 = 2 ∨ j % 16 - 7 = 3 ∨ 4 ≤ j % 16 - 7) with z | z | z | z | z4
                · rw [z, if_pos (by omega)]; rfl
                · rw [z, if_neg (by omega), if_neg (by omega), if_neg (by omega), if_neg (by omega), if_pos (by omega)]; rfl
                · rw [z, if_neg (by omega), if_neg (by omega), if_neg (by omega), if_pos (by omega)]; rfl
                · rw [z, if_neg (by omega), if_neg (by omega), if_pos (by omega)]; rfl
                · obtain ⟨k, z⟩ : ∃ k, j % 16 - 7 = k + 4 := ⟨j % 16 - 7 - 4, by omega⟩
                  rw [z, if_neg (by omega), if_neg (by omega), if_neg (by omega), if_neg (by omega), if_neg (by omega)]
                  show lnt tl k = lnt (ovr tl []) k
                  rw [ovr_n]
            · rw [if_neg ej, if_neg (by omega), if_neg (by omega), if_neg (by omega), if_neg (by omega), if_neg (by omega)]
              rfl
      · cases e
    · cases e
  · cases e
