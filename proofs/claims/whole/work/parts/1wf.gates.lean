/-! THE MODEL'S GATES, as functions -/
def gn : tC := fun vs n T => match vs with
  | [.ofNat a, .ofNat x, .ofNat y] => (match lnt T 6, lnt T 9 with
    | some r6, some r9 => (match lnt r6 12, ldr r9 7 with
      | some (kd, l0, nc), (k1, l1, c1) :: (k2, l2, c2) :: (k3, l3, c3) :: _ =>
        bif (Nat.beq a 158 && (Nat.beq kd 21 && (Nat.beq k1 0 && (Nat.beq k2 0 && (Nat.beq k3 0 && (Nat.ble 204 n && (Nat.beq l1 9000 && (Nat.beq l2 9000 && (Nat.beq l3 9000 && (Nat.beq (pku 32 nc 87) 201 && (Nat.beq (pku 32 nc 88) 202 && (Nat.beq (pku 32 nc 89) 203 && (Nat.blt x (pku 32 nc 86) && (Nat.blt y (pku 32 nc 86) && (Nat.blt (pku 32 nc 86) 9000 && (Nat.blt (pku 32 c3 x) 1000000 && (Nat.blt (pku 32 c3 y) 1000000 && (Nat.blt (pku 32 nc 91) 2000000 && (Nat.ble 0 (pkw 32 c1 (pku 32 nc 86) x) && (Nat.ble 0 (pkw 32 c2 (pku 32 nc 86) y)))))))))))))))))))))
        then some ([Int.ofNat (pku 32 nc 86)], n, lst (lst T 6 (lst r6 12 (kd, l0, pkw 32 (pkw 32 nc 91 (bif Nat.ble (Nat.succ (bif Nat.ble (pku 32 c3 x) (pku 32 c3 y) then pku 32 c3 y else pku 32 c3 x)) (pku 32 nc 91) then pku 32 nc 91 else Nat.succ (bif Nat.ble (pku 32 c3 x) (pku 32 c3 y) then pku 32 c3 y else pku 32 c3 x))) 86 (Nat.succ (pku 32 nc 86))))) 9 (lrp r9 7 [(k1, l1, pkw 32 c1 (pku 32 nc 86) x), (k2, l2, pkw 32 c2 (pku 32 nc 86) y), (k3, l3, pkw 32 c3 (pku 32 nc 86) (Nat.succ (bif Nat.ble (pku 32 c3 x) (pku 32 c3 y) then pku 32 c3 y else pku 32 c3 x)))]))
        else none
      | _, _ => none)
    | _, _ => none)
  | _ => none
theorem gn_ok {L : Nat} {xs : Nat → Int32} {d F : Nat} (hd : 2 ≤ d) : CM L xs d F 291 gn := by
  obtain ⟨d, rfl⟩ : ∃ e, d = e + 2 := ⟨d - 2, by omega⟩
  intro vs h n T r q H e
  unfold gn at e
  split at e
  · rename_i a x y
    split at e
    · rename_i r6 r9 hr6 hr9
      split at e
      · rename_i kd l0 nc k1 l1 c1 k2 l2 c2 k3 l3 c3 tl h6 hl
        cases hb : (Nat.beq a 158 && (Nat.beq kd 21 && (Nat.beq k1 0 && (Nat.beq k2 0 && (Nat.beq k3 0 && (Nat.ble 204 n && (Nat.beq l1 9000 && (Nat.beq l2 9000 && (Nat.beq l3 9000 && (Nat.beq (pku 32 nc 87) 201 && (Nat.beq (pku 32 nc 88) 202 && (Nat.beq (pku 32 nc 89) 203 && (Nat.blt x (pku 32 nc 86) && (Nat.blt y (pku 32 nc 86) && (Nat.blt (pku 32 nc 86) 9000 && (Nat.blt (pku 32 c3 x) 1000000 && (Nat.blt (pku 32 c3 y) 1000000 && (Nat.blt (pku 32 nc 91) 2000000 && (Nat.ble 0 (pkw 32 c1 (pku 32 nc 86) x) && (Nat.ble 0 (pkw 32 c2 (pku 32 nc 86) y))))))))))))))))))))) with
        | false => rw [hb] at e; cases e
        | true =>
          rw [hb] at e
          simp only [Bool.and_eq_true] at hb
          obtain ⟨t1, t2, t3, t4, t5, t6, t7, t8, t9, t10, t11, t12, t13, t14, t15, t16, t17, t18, _, _⟩ := hb
          have u1 := Nat.eq_of_beq_eq_true t1
          have u2 := Nat.eq_of_beq_eq_true t2
          have u3 := Nat.eq_of_beq_eq_true t3
          have u4 := Nat.eq_of_beq_eq_true t4
          have u5 := Nat.eq_of_beq_eq_true t5
          have u6 : 204 ≤ n := Nat.le_of_ble_eq_true t6
          have u7 := Nat.eq_of_beq_eq_true t7
          have u8 := Nat.eq_of_beq_eq_true t8
          have u9 := Nat.eq_of_beq_eq_true t9
          have u10 := Nat.eq_of_beq_eq_true t10
          have u11 := Nat.eq_of_beq_eq_true t11
          have u12 := Nat.eq_of_beq_eq_true t12
          have u13 : x < pku 32 nc 86 := Nat.le_of_ble_eq_true t13
          have u14 : y < pku 32 nc 86 := Nat.le_of_ble_eq_true t14
          have u15 : pku 32 nc 86 < 9000 := Nat.le_of_ble_eq_true t15
          have u16 : pku 32 c3 x < 1000000 := Nat.le_of_ble_eq_true t16
          have u17 : pku 32 c3 y < 1000000 := Nat.le_of_ble_eq_true t17
          have u18 : pku 32 nc 91 < 2000000 := Nat.le_of_ble_eq_true t18
          clear t1 t2 t3 t4 t5 t6 t7 t8 t9 t10 t11 t12 t13 t14 t15 t16 t17 t18
          subst u1; subst u2; subst u3; subst u4; subst u5; subst u7; subst u8; subst u9
          rw [bif_ble, bif_ble] at e
          generalize hw : pku 32 nc 86 = w at *
          generalize hdx : pku 32 c3 x = dx at *
          generalize hdy : pku 32 c3 y = dy at *
          generalize hg : pku 32 nc 91 = gg at *
          generalize hD : Nat.succ (if dx ≤ dy then dy else dx) = D at *
          have hDb : D ≤ 1000000 := by rw [← hD]; split <;> omega
          generalize hM : (if D ≤ gg then gg else D) = M at *
          have hMb : M < 2000001 := by rw [← hM]; split <;> omega
          cases e
          have w16 : wd 21 = 32 := rfl
          have w0 : wd 0 = 32 := rfl
          have o23 : og T 108 = some (21, l0, nc) := by
            show (match lnt T 6 with | some r => lnt r 12 | none => none) = _
            rw [hr6]; exact h6
          have o24 : og T 151 = some (0, 9000, c1) := by
            show (match lnt T 9 with | some r => lnt r 7 | none => none) = _
            rw [hr9]; show lnt r9 (7 + 0) = _; rw [lnt_ldr, hl]; rfl
          have o25 : og T 152 = some (0, 9000, c2) := by
            show (match lnt T 9 with | some r => lnt r 8 | none => none) = _
            rw [hr9]; show lnt r9 (7 + 1) = _; rw [lnt_ldr, hl]; rfl
          have o26 : og T 153 = some (0, 9000, c3) := by
            show (match lnt T 9 with | some r => lnt r 9 | none => none) = _
            rw [hr9]; show lnt r9 (7 + 2) = _; rw [lnt_ldr, hl]; rfl
          obtain ⟨O0, g0⟩ := ob_of (p := 158) (c := 11) H (by omega) (by decide) o23
          obtain ⟨A1, _⟩ := at_of (p := 201) (i := (w : Int)) H (by omega) (by decide) o24 (by omega) (by omega)
          obtain ⟨A2, _⟩ := at_of (p := 202) (i := (w : Int)) H (by omega) (by decide) o25 (by omega) (by omega)
          obtain ⟨A3, _⟩ := at_of (p := 203) (i := (w : Int)) H (by omega) (by decide) o26 (by omega) (by omega)
          obtain ⟨A4, g3⟩ := at_of (p := 203) (i := (x : Int)) H (by omega) (by decide) o26 (by omega) (by omega)
          obtain ⟨A5, _⟩ := at_of (p := 203) (i := (y : Int)) H (by omega) (by decide) o26 (by omega) (by omega)
          have f0 : h.2.2.2 158 86 = (w : Int) := by rw [g0, cg_r w16 (by rw [hw]; omega), hw]
          have f1 : h.2.2.2 158 91 = (gg : Int) := by rw [g0, cg_r w16 (by rw [hg]; omega), hg]
          have f2 : h.2.2.2 158 87 = 201 := by rw [g0, cg_r w16 (by rw [u10]; decide), u10]; rfl
          have f3 : h.2.2.2 158 88 = 202 := by rw [g0, cg_r w16 (by rw [u11]; decide), u11]; rfl
          have f4 : h.2.2.2 158 89 = 203 := by rw [g0, cg_r w16 (by rw [u12]; decide), u12]; rfl
          have e1 : h.2.2.2 203 x = (dx : Int) := by rw [g3, cg_r w0 (by rw [hdx]; omega), hdx]
          have e2 : h.2.2.2 203 y = (dy : Int) := by rw [g3, cg_r w0 (by rw [hdy]; omega), hdy]
          have H1 := put_of (p := 201) (q := w) (v := (x : Int)) H (by decide) o24 (cg_w w0 (by omega))
          have p25 : og (oset T (201 - 50) (pkw 32 c1 w x)) 152 = some (0, 9000, c2) := by rw [oset_ok 152 o24, if_neg (by decide)]; exact o25
          have H2 := put_of (p := 202) (q := w) (v := (y : Int)) H1 (by decide) p25 (cg_w w0 (by omega))
          have p26 : og (oset (oset T (201 - 50) (pkw 32 c1 w x)) (202 - 50) (pkw 32 c2 w y)) 153 = some (0, 9000, c3) := by rw [oset_ok 153 p25, if_neg (by decide), oset_ok 153 o24, if_neg (by decide)]; exact o26
          have H3 := put_of (p := 203) (q := w) (v := (D : Int)) H2 (by decide) p26 (cg_w w0 (by omega))
          have p23 : og (oset (oset (oset T (201 - 50) (pkw 32 c1 w x)) (202 - 50) (pkw 32 c2 w y)) (203 - 50) (pkw 32 c3 w D)) 108 = some (21, l0, nc) := by rw [oset_ok 108 p26, if_neg (by decide), oset_ok 108 p25, if_neg (by decide), oset_ok 108 o24, if_neg (by decide)]; exact o23
          have H4 := put_of (p := 158) (q := 91) (v := (M : Int)) H3 (by decide) p23 (cg_w w16 (by omega))
          have p23' : og (oset (oset (oset (oset T (201 - 50) (pkw 32 c1 w x)) (202 - 50) (pkw 32 c2 w y)) (203 - 50) (pkw 32 c3 w D)) (158 - 50) (pkw 32 nc 91 M)) 108 = some (21, l0, pkw 32 nc 91 M) := by rw [oset_ok 108 p23, if_pos (by decide)]
          have H5 := put_of (p := 158) (q := 86) (v := ((Nat.succ w : Nat) : Int)) H4 (by decide) p23' (cg_w w16 (by omega))
          have hx0 : (0 : Int) ≤ (x : Int) := by omega
          have hx1 : (x : Int) < (w : Int) := by omega
          have hy0 : (0 : Int) ≤ (y : Int) := by omega
          have hy1 : (y : Int) < (w : Int) := by omega
          have hw1 : (w : Int) < 9000 := by omega
          refine ⟨_, ?_, Rh_ext (fun j => ?_) H5⟩
          · show Cx F (d + 2) 291 [158, (x : Int), (y : Int)] h = _
            rw [c_291h (show xrecv h 12 [158, (x : Int), (y : Int)] = true by show (xob h 11 158).isSome = true; rw [show xob h 11 158 = some 158 from O0]; rfl)]
            exact nand_x O0 f0 f2 f3 f4 A1 A2 A3 A4 A5 hx0 hx1 hy0 hy1 hw1 e1 e2 (by omega) (by omega) (by omega) (by omega) (by rw [← hD]; split <;> (first | (rw [if_pos (by omega)]; omega) | (rw [if_neg (by omega)]; omega))) (by rw [f1, ← hM]; split <;> (first | (rw [if_pos (by omega)]) | (rw [if_neg (by omega)])))
          · rw [oset_ok j p23', oset_ok j p23, oset_ok j p26, oset_ok j p25, oset_ok j o24]
            show _ = (match lnt (lst (lst T 6 (lst r6 12 _)) 9 (lrp r9 7 _)) (j / 16) with | some r => lnt r (j % 16) | none => none)
            have hr9' : lnt (lst T 6 (lst r6 12 (21, l0, pkw 32 (pkw 32 nc 91 M) 86 w.succ))) 9 = some r9 := by rw [lst_ok hr6, if_neg (by decide)]; exact hr9
            rw [lst_ok hr9', lst_ok hr6]
            by_cases ej : j / 16 = 9
            · rw [if_pos ej]
              show _ = lnt (lrp r9 7 _) (j % 16)
              rw [lnt_lrp r9 7 (j % 16) (by rw [hl]; simp), hl]
              have hog : og T j = lnt r9 (j % 16) := by unfold og; rw [ej, hr9]
              by_cases e7 : j % 16 < 7
              · rw [if_pos e7, if_neg (by omega), if_neg (by omega), if_neg (by omega), if_neg (by omega), if_neg (by omega), hog]
              · rw [if_neg e7]
                have hog2 : lnt r9 (j % 16) = lnt ((0, 9000, c1) :: (0, 9000, c2) :: (0, 9000, c3) :: tl) (j % 16 - 7) := by
                  rw [← hl, ← lnt_ldr, show 7 + (j % 16 - 7) = j % 16 by omega]
                rw [hog, hog2]
                rcases (by omega : j % 16 - 7 = 0 ∨ j % 16 - 7 = 1 ∨ j % 16 - 7 = 2 ∨ 3 ≤ j % 16 - 7) with z | z | z | z4
                · rw [z, if_neg (by omega), if_neg (by omega), if_neg (by omega), if_neg (by omega), if_pos (by omega)]; rfl
                · rw [z, if_neg (by omega), if_neg (by omega), if_neg (by omega), if_pos (by omega)]; rfl
                · rw [z, if_neg (by omega), if_neg (by omega), if_pos (by omega)]; rfl
                · obtain ⟨k, z⟩ : ∃ k, j % 16 - 7 = k + 3 := ⟨j % 16 - 7 - 3, by omega⟩
                  rw [z, if_neg (by omega), if_neg (by omega), if_neg (by omega), if_neg (by omega), if_neg (by omega)]
                  show lnt tl k = lnt (ovr tl []) k
                  rw [ovr_n]
            · rw [if_neg ej]
              by_cases ek : j / 16 = 6
              · rw [if_pos ek]
                show _ = lnt (lst r6 12 _) (j % 16)
                rw [lst_ok h6]
                have hog : og T j = lnt r6 (j % 16) := by unfold og; rw [ek, hr6]
                by_cases e12 : j % 16 = 12
                · rw [if_pos e12, if_pos (by omega)]
                · rw [if_neg e12, if_neg (by omega), if_neg (by omega), if_neg (by omega), if_neg (by omega), if_neg (by omega), hog]
              · rw [if_neg ek, if_neg (by omega), if_neg (by omega), if_neg (by omega), if_neg (by omega), if_neg (by omega)]
                rfl
      · cases e
    · cases e
  · cases e
