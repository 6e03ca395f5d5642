/-! CLASS AND MODEL, THE SECOND WALK: try -/
section Try
variable {F : Nat} {mc : Mem} {e : Int}
theorem SR_H {m : Mem} {s : xSt} {y : yS} {σ : Int → Int} {D H H' p v : Int} {G : Prop} (R : SR mc s y m σ D G H p) (h0 : -1 ≤ H' ∧ H' < (y.1.length : Int)) (hv : v = σ H') : SR mc s y (put m 158 48 v) σ D G H' p := by
  have X := R.rx
  exact ⟨⟨X.len, X.ops, X.pus, X.nf, X.cf⟩, R.lk, R.la, R.lb, R.lj, R.ls, R.s1, hv, h0, R.ln, R.l0, R.lh, R.lm, R.ld, R.lx, R.pr, R.wh⟩
theorem SR_39 {m : Mem} {s : xSt} {y : yS} {σ : Int → Int} {D H p v u : Int} {G : Prop} (R : SR mc s y m σ D G H p) (h0 : 0 ≤ v ∧ 3 * v ≤ p) : SR mc s y (put (put m 158 39 v) 158 40 u) σ D G H p := by
  have X := R.rx
  exact ⟨⟨X.len, X.ops, X.pus, X.nf, X.cf⟩, R.lk, R.la, R.lb, R.lj, R.ls, R.s1, R.hd, R.hl, R.ln, R.l0, R.lh, R.lm, R.ld, R.lx, R.pr, h0⟩
theorem SR_40 {m : Mem} {s : xSt} {y : yS} {σ : Int → Int} {D H p u : Int} {G : Prop} (R : SR mc s y m σ D G H p) : SR mc s y (put m 158 40 u) σ D G H p := by
  have X := R.rx
  exact ⟨⟨X.len, X.ops, X.pus, X.nf, X.cf⟩, R.lk, R.la, R.lb, R.lj, R.ls, R.s1, R.hd, R.hl, R.ln, R.l0, R.lh, R.lm, R.ld, R.lx, R.pr, R.wh⟩
theorem st_30 (hF : 100000 ≤ F) {L d : Nat} {xs : Nat → Int32} {m : Mem} {s : xSt} {y : yS} {σ : Int → Int} {D H dep p q : Int} {G : Prop} {V : Int → Int} {i : Int} {a b : xT} (hd0 : 0 ≤ dep) (hd1 : dep ≤ 30) (hp : 0 ≤ p) (hq : q ≤ e) (S : SE mc m e) (R : SR mc s y m σ D G H p) (hs0 : s.2.1 = 0) (hb : m 158 15 = 0) (h41 : m 158 41 + 2 * (q - p) < 2900) (hlab : (y.1.length : Int) + 2 * (q - p) < 2900) (hD : ∀ j, 0 ≤ j → j < q → mc 54 j.toNat < D) (hd : 300 + 4 * (31 - dep).toNat + 3 ≤ d) (h1 : kd mc p = 11) {r : Int} (h8 : P (kd mc) V a 8 dep (p + 1) r) (h9 : kd mc r = 12) (h10 : P (kd mc) V b 11 dep r q) (hB : Qst 230 8 0 2 F mc e a) (hW : QsW F mc e b) : ∃ p' m', Cx F (d + 10) 231 [158] (Hp L xs (rv p dep m)) = some ([], Hp L xs (rv p' dep m')) ∧ Pst mc e (stS mc (nd 30 i a b) H 0 0 (s, y)) y m m' σ D G H p q p' 0 0 := by
  have l1 : p + 1 + 2 ≤ r := by
    obtain ⟨i', a', b', rfl, ho, h30, hv, r', h1, h3, hq2⟩ := inv_8 h8
    have := P_le a' h1
    omega
  have l2 := P_le b h10
  have hbn := (P11_q (tsz b + 1) b (by omega) _ _ _ h10).2
  have el := S.el
  have hT := S.tr p hp (by omega)
  rw [h1] at hT
  have N := SR_En S R (by omega) (Or.inl hb) (by omega)
  have hl := R.hl
  have y_p := fun (s : Int) (D : Nat) (hs : 0 ≤ s ∧ s ≤ 12) => N_210 (L := L) (xs := xs) (F := F) (d := D) (dep := dep) (a1 := s) (m := m) hb (by omega) hT hs
  have w_p := fun (D : Nat) => N_211 (L := L) (xs := xs) (F := F) (d := D) (dep := dep) (m := m) hb (by omega) hT
  have x1 := fun D => N_212 (F := F) (L := L) (xs := xs) (d := D) (m := m) (p := p) (dep := dep) hb (by omega)
  obtain ⟨d, rfl⟩ : ∃ d', d = d' + 2 := ⟨d - 2, by omega⟩
  have la := R.la
  have hl1 : y.1.length < 2999 := by omega
  have en1 : nln y = (y.1.length : Int) := nln_1 (by omega)
  have en2 : nln (nlb y) = (y.1.length : Int) + 1 := nln_2 hl1
  have hy1 : (nlb (nlb y)).1.length = y.1.length + 2 := by rw [nlb_2 hl1, List.length_append, List.length_replicate]
  have ec : stS mc (nd 30 i a b) H 0 0 (s, y) = (fun c1 : zS => (fun y3 : yS => (fun c4 : zS => (fun c6 : zS => (c6.1, slb (nln y) (c6.1.1.length : Int) c6.2)) (stS mc b H (nln y) (y3.1.length : Int) (em 25 0 H c4.1, c4.2))) (wW mc b [] (em 23 (mc 68 4) (-1) (em 15 0 (nln y) c1.1), y3))) (slb (nln (nlb y)) ((em 15 0 (nln y) c1.1).1.length : Int) c1.2)) (stS mc a (nln (nlb y)) 0 0 (s, nlb (nlb y))) := rfl
  rw [ec, en1, en2]
  have xa := fun D P1 => M_244 (F := F) (L := L) (xs := xs) (d := D) (m := m) (p := P1) (dep := dep) (by omega) (by omega)
  have xb := fun D P1 => M_244 (F := F) (L := L) (xs := xs) (d := D) (m := put m 158 46 (m 158 46 + 1)) (p := P1) (dep := dep) (by show 0 ≤ m 158 46 + 1; omega) (by show m 158 46 + 1 < 12000; omega)
  have eb : put m 158 46 (m 158 46 + 1) 158 46 = m 158 46 + 1 := rfl
  have eb2 : m 158 46 + 1 + 1 = m 158 46 + 2 := by omega
  rw [eb, pp30, eb2] at xb
  have R1 := SR_H (H' := (y.1.length : Int) + 1) (v := (y.1.length : Int)) (SR_p (p' := p + 1) (SR_swp R hl1) (by omega)) (by rw [hy1]; omega) sy_1.symm
  rw [← la] at xa xb R1
  generalize hm1 : put (put m 158 46 ((y.1.length : Int) + 2)) 158 48 (y.1.length : Int) = m1 at *
  have F1 : FS m m1 := by rw [← hm1]; exact FS_put (FS_put FS_rf rfl) rfl
  have hb1 : m1 158 15 = 0 := by rw [← hm1]; exact hb
  have g41 : m1 158 41 = m 158 41 := by rw [← hm1]; rfl
  have g30 : m1 158 30 = m 158 30 := by rw [← hm1]; rfl
  have g39 : m1 158 39 = m 158 39 := by rw [← hm1]; rfl
  have g40 : m1 158 40 = m 158 40 := by rw [← hm1]; rfl
  have g176 : ∀ k, m1 176 k = m 176 k := by rw [← hm1]; exact fun _ => rfl
  have S1 := SE_FS S F1
  obtain ⟨p2, m2, c2, X2⟩ := hB V dep (p + 1) r h8 hd0 hd1 (by omega) (by omega) L xs d m1 s (nlb (nlb y)) (sy σ (y.1.length : Int)) D ((y.1.length : Int) + 1) G S1 R1 hs0 hb1 (by omega) (by rw [hy1]; omega) (fun j j1 j2 => hD j j1 (by omega)) (by omega)
  generalize hcA : stS mc a ((y.1.length : Int) + 1) 0 0 (s, nlb (nlb y)) = cA at *
  obtain ⟨F2, q0, q1, σ2, e2, Y⟩ := X2
  have F02 := FS_tr F1 F2
  have S2 := SE_FS S F02
  have hwh := R.wh
  rcases Y with ⟨Y, hp2⟩ | ⟨W2, B2⟩
  · subst hp2
    have y41 := Y.o41
    have ylc := Y.lc
    have yly := Y.ly
    have y30 := Y.l30
    have y39 := Y.w39
    have y40 := Y.w40
    rw [hy1] at ylc yly
    have hσH : σ2 H = σ H := by rw [e2 H (by rw [hy1]; omega), sy_l hl.2]
    have hσn : σ2 (y.1.length : Int) = (y.1.length : Int) + 1 := by rw [e2 _ (by rw [hy1]; omega), sy_0]
    have hσm : σ2 ((y.1.length : Int) + 1) = (y.1.length : Int) := by rw [e2 _ (by rw [hy1]; omega), sy_1]
    have R3 := SR_H (H' := H) (v := m 158 48) Y.sr (by omega) (by rw [hσH]; exact R.hd)
    generalize hm3 : put m2 158 48 (m 158 48) = m3 at *
    have F3 : FS m m3 := by rw [← hm3]; exact FS_put F02 rfl
    have hb3 : m3 158 15 = 0 := by rw [← hm3]; exact Y.b0
    have f41 : m3 158 41 = m2 158 41 := by rw [← hm3]; rfl
    have f30 : m3 158 30 = m2 158 30 := by rw [← hm3]; rfl
    have f39 : m3 158 39 = m2 158 39 := by rw [← hm3]; rfl
    have f40 : m3 158 40 = m2 158 40 := by rw [← hm3]; rfl
    have f176 : ∀ k, m3 176 k = m2 176 k := by rw [← hm3]; exact fun _ => rfl
    have W3 := SR_WU (SE_FS S F3) R3 (by omega) (Or.inl hb3) (by omega)
    have x4 := fun D => R_246_15 (F := F) (L := L) (xs := xs) (d := D) (p := p2) (dep := dep) (a := 0) (l := (y.1.length : Int) + 1) W3
    have b2 : w32 (cA.1.2.1 + 0) = 0 := by rw [Y.pz]; decide
    have R4 := SR_emz (o := 15) (a := 0) (u := 0) (l := (y.1.length : Int)) (lm := (y.1.length : Int) + 1) R3 hb3 (by omega) rfl b2 hσn.symm (by omega)
    have G4 := (Fm_emG (m := m3) (o := 15) (a := 0) (l := (y.1.length : Int) + 1) (u := 0) (z := true) (Or.inl hb3)).2.2.2.1
    have E4 := FE_emG (m := m3) (o := 15) (a := 0) (l := (y.1.length : Int) + 1) (u := 0) (z := true)
    have hb4 : emG m3 15 0 ((y.1.length : Int) + 1) 0 true 158 15 = 0 := emG_ok hb3
    have z4 : (em 15 0 (y.1.length : Int) cA.1).2.1 = 0 := b2
    generalize hm4 : emG m3 15 0 ((y.1.length : Int) + 1) 0 true = m4 at *
    generalize hs4 : em 15 0 (y.1.length : Int) cA.1 = s4 at *
    have x5 := fun D => M_245 (F := F) (L := L) (xs := xs) (d := D) (m := m4) (p := p2) (dep := dep) (l := (y.1.length : Int)) (by omega) (by omega)
    have R5 := SR_st R4 (l := (y.1.length : Int) + 1) (by omega) (by omega)
    rw [hσm] at R5
    generalize hm5 : put m4 181 ((y.1.length : Int)).toNat (m4 158 41) = m5 at *
    have hy5 : (slb ((y.1.length : Int) + 1) (s4.1.length : Int) cA.2).1.length = cA.2.1.length := by
      unfold slb
      split
      · exact List.length_set
      · rfl
    generalize hy6 : slb ((y.1.length : Int) + 1) (s4.1.length : Int) cA.2 = y6 at *
    have F5 : FS m m5 := by rw [← hm5]; exact FS_put (FS_tr F3 (by rw [← hm4]; exact FS_emG)) rfl
    have hb5 : m5 158 15 = 0 := by rw [← hm5]; exact hb4
    have k41 : m5 158 41 = m4 158 41 := by rw [← hm5]; rfl
    have k30 : m5 158 30 = m4 158 30 := by rw [← hm5]; rfl
    have k39 : m5 158 39 = m4 158 39 := by rw [← hm5]; rfl
    have k40 : m5 158 40 = m4 158 40 := by rw [← hm5]; rfl
    have k176 : ∀ k, m5 176 k = m4 176 k := by rw [← hm5]; exact fun _ => rfl
    have W5 := SR_WU (SE_FS S F5) R5 (by omega) (Or.inl hb5) (by omega)
    have x6 := fun D => R_246_23 (F := F) (L := L) (xs := xs) (d := D) (p := p2) (dep := dep) (a := m5 158 33) (l := -1) W5
    have R6 := SR_em (o := 23) (a := m5 158 33) (l := -1) (lm := -1) (u := 0) R5 hb5 (by omega) rfl R5.s1.symm (by omega)
    have G6 := (Fm_emG (m := m5) (o := 23) (a := m5 158 33) (l := -1) (u := 0) (z := false) (Or.inl hb5)).2.2.2.1
    have E6 := FE_emG (m := m5) (o := 23) (a := m5 158 33) (l := -1) (u := 0) (z := false)
    have hb6 : emG m5 23 (m5 158 33) (-1) 0 false 158 15 = 0 := emG_ok hb5
    rw [← R5.pr] at R6
    have z6 : (em 23 (mc 68 4) (-1) s4).2.1 = 0 := by
      show w32 (s4.2.1 + 0) = 0
      rw [z4]; decide
    generalize hs6 : em 23 (mc 68 4) (-1) s4 = s6 at *
    rw [R5.pr] at R6
    generalize hm6 : emG m5 23 (m5 158 33) (-1) 0 false = m6 at *
    have F6 : FS m m6 := by rw [← hm6]; exact FS_tr F5 FS_emG
    have S6 := SE_FS S F6
    have hf6 := S6.fu
    have la6 := R6.la
    have T6 := S6.tr
    -- the whens are counted, their labels made
    have w0 := L_w0 (F := F) (L := L) (xs := xs) (d := d) (m := rv p2 dep m6) (K := kd mc) (V := V) (e := e) (x1 := m 158 48) (x2 := (y.1.length : Int)) (x3 := (y.1.length : Int) + 1) (x4 := m6 158 46) (l7 := (9, 0)) (l8 := (9, 0)) (l9 := (9, 0)) T6 el hF (tsz b + 1) b (by omega) dep p2 q h10 q0 hq 0 F (by omega) q0 (by omega)
    have ew0 : (0 : Int) + (nW b : Int) = (nW b : Int) := by omega
    rw [ew0] at w0
    obtain ⟨l7', w1⟩ := L_w1 (F := F) (L := L) (xs := xs) (d := d) (p := p2) (dep := dep) (x1 := m 158 48) (x2 := (y.1.length : Int)) (x3 := (y.1.length : Int) + 1) (x4 := m6 158 46) (many := (nW b : Int)) (l8 := (9, 0)) (l9 := (9, 0)) (by omega) (nW b) 0 F m6 (9, 0) (by omega) (by omega) (by omega) (by omega) (by omega)
    have hlen6 : y6.1.length + nW b < 3000 := by omega
    have ewW := wW_eq (mc := mc) (V := V) (tsz b + 1) b (by omega) dep p2 q h10 [] s6 y6 hlen6
    have R7 : SR mc s6 (y6.1 ++ List.replicate (nW b) (-1), y6.2) (put m6 158 46 (m6 158 46 + (nW b : Int))) (sx σ2 (y6.1.length : Int)) D G H p2 := by
      refine SR_ext (c := nW b) R6 rfl rfl (fun k hk => sx_l hk) (fun k h1 h2 => by rw [sx_g h1]; omega) (fun j k h1 h2 h3 h4 h5 => by rw [sx_g h1, sx_g h3] at h5; exact h5) (fun a k hh => ?_) rfl
      rw [put_ss]
      by_cases h1 : a = 158
      · rw [if_pos h1, if_neg (fun z => hh ⟨h1, z⟩)]
      · rw [if_neg h1]
    have hy7 : (y6.1 ++ List.replicate (nW b) (-1 : Int)).length = y6.1.length + nW b := by rw [List.length_append, List.length_replicate]
    generalize hm7 : put m6 158 46 (m6 158 46 + (nW b : Int)) = m7 at *
    have F7 : FS m m7 := by rw [← hm7]; exact FS_put F6 rfl
    have S7 := SE_FS S F7
    have hb7 : m7 158 15 = 0 := by rw [← hm7]; exact hb6
    have n41 : m7 158 41 = m6 158 41 := by rw [← hm7]; rfl
    have n30 : m7 158 30 = m6 158 30 := by rw [← hm7]; rfl
    have n39 : m7 158 39 = m6 158 39 := by rw [← hm7]; rfl
    have n40 : m7 158 40 = m6 158 40 := by rw [← hm7]; rfl
    have n176 : ∀ k, m7 176 k = m6 176 k := by rw [← hm7]; exact fun _ => rfl
    have W7 := SR_WU S7 R7 (by omega) (Or.inl hb7) (by omega)
    obtain ⟨cn', l8', w2⟩ := L_w2 (F := F) (L := L) (xs := xs) (d := d) (mc := mc) (V := V) (e := e) (x1 := m 158 48) (x2 := (y.1.length : Int)) (x3 := (y.1.length : Int) + 1) (x4 := m6 158 46) (x5 := (nW b : Int)) (pos := p2) (dep0 := dep) (l9 := (9, 0)) el hF (by omega) (tsz b + 1) b (by omega) dep p2 q h10 q0 hq 0 F m7 (9, 0) S7 W7 hb7 (by omega) (by omega) q0 (by omega)
    have ew2 : m6 158 46 + 0 = (y6.1.length : Int) := by omega
    rw [ew2] at w2
    obtain ⟨z8, hb8, G8, E8, U8⟩ := SR_ds (mc := mc) (D := D) (G := G) (V := V) (tsz b + 1) b (by omega) dep p2 q h10 q0 hq [] (y6.1.length : Int) s6 m7 p2 S7 R7 z6 hb7 (by omega) (fun j j1 j2 => ⟨by rw [hy7]; omega, sx_g (by omega)⟩) hD
    generalize hs8 : wWs mc b [] (y6.1.length : Int) s6 = s8 at *
    generalize hm8 : dsM b (y6.1.length : Int) m7 = m8 at *
    have F8 : FS m m8 := FS_tr F7 (FE_FS E8)
    have S8 := SE_FS S F8
    -- in the relation, whatever is pending
    obtain ⟨D1, G1, R8, pend⟩ : ∃ (D1 : Int) (G1 : Prop), SR mc s8 (y6.1 ++ List.replicate (nW b) (-1), y6.2) m8 (sx σ2 (y6.1.length : Int)) D1 G1 H p2 ∧ ((bwT mc b [] = -1 ∧ D1 = D ∧ G1 = G) ∨ (p2 < bwT mc b [] ∧ D1 = mc 54 (bwT mc b []).toNat)) := by
      rcases U8 with ⟨u1, u2⟩ | ⟨u1, u2, u3⟩
      · exact ⟨D, G, u2, Or.inl ⟨u1, rfl, rfl⟩⟩
      · exact ⟨_, False, u3, Or.inr ⟨u1, rfl⟩⟩
    have W8 := SR_WU S8 R8 (by omega) (Or.inl hb8) (by omega)
    have x9 := fun D => R_246_25 (F := F) (L := L) (xs := xs) (d := D) (p := p2) (dep := dep) (a := 0) (l := m 158 48) W8
    have b8 : w32 (s8.2.1 + 0) = 0 := by rw [z8]; decide
    have R9 := SR_emz (o := 25) (a := 0) (u := 0) (l := H) (lm := m 158 48) R8 hb8 (by omega) rfl b8 (by rw [sx_l (by omega), hσH]; exact R.hd) (by rw [hy7]; omega)
    have G9 := (Fm_emG (m := m8) (o := 25) (a := 0) (l := m 158 48) (u := 0) (z := true) (Or.inl hb8)).2.2.2.1
    have E9 := FE_emG (m := m8) (o := 25) (a := 0) (l := m 158 48) (u := 0) (z := true)
    have hb9 : emG m8 25 0 (m 158 48) 0 true 158 15 = 0 := emG_ok hb8
    have z9 : (em 25 0 H s8).2.1 = 0 := b8
    generalize hm9 : emG m8 25 0 (m 158 48) 0 true = m9 at *
    have F9 : FS m m9 := FS_tr F8 (FE_FS E9)
    have v39 : m9 158 39 = m 158 39 := by rw [E9 158 39 rfl, E8 158 39 rfl, n39, E6 158 39 rfl, k39, E4 158 39 rfl]; omega
    have v40 : m9 158 40 = m 158 40 := by rw [E9 158 40 rfl, E8 158 40 rfl, n40, E6 158 40 rfl, k40, E4 158 40 rfl]; omega
    have v30 : m9 158 30 = m2 158 30 := by rw [E9 158 30 rfl, E8 158 30 rfl, n30, E6 158 30 rfl, k30, E4 158 30 rfl]; omega
    have v176 : ∀ k : Nat, (k : Int) < m 158 39 → m9 176 k = m 176 k := fun k hk => by
      rw [E9 176 k rfl, E8 176 k rfl, n176, E6 176 k rfl, k176, E4 176 k rfl, f176, Y.c176 k (by omega), g176]
    have R10 := SR_40 (u := m9 158 39) R9
    generalize hm10 : put m9 158 40 (m9 158 39) = m10 at *
    have F10 : FS m m10 := by rw [← hm10]; exact FS_put F9 rfl
    have S10 := SE_FS S F10
    have hb10 : m10 158 15 = 0 := by rw [← hm10]; exact hb9
    have o41 : m10 158 41 = m9 158 41 := by rw [← hm10]; rfl
    have o30 : m10 158 30 = m9 158 30 := by rw [← hm10]; rfl
    have o39 : m10 158 39 = m9 158 39 := by rw [← hm10]; rfl
    have o40 : m10 158 40 = m9 158 39 := by rw [← hm10]; rfl
    have o176 : ∀ k, m10 176 k = m9 176 k := by rw [← hm10]; exact fun _ => rfl
    obtain ⟨p11, m11, cn11, a7, a8, a9, c11, X11⟩ := hW V dep p2 q h10 h9 hd0 hd1 q0 hq L xs d m10 (em 25 0 H s8) (y6.1 ++ List.replicate (nW b) (-1), y6.2) (sx σ2 (y6.1.length : Int)) D D1 H G G1 [] (m 158 48) (y.1.length : Int) ((y.1.length : Int) + 1) (m6 158 46) (m9 158 40) 0 (y.1.length : Int) (0, q) l8' (9, 0) F S10 (SR_p R10 (by omega)) z9 hb10 (by omega) (by rw [hy7]; omega) hD pend ⟨by show m10 158 39 = m10 158 40 + 0; omega, by omega, fun j hj => absurd hj (List.not_mem_nil), fun k hk => absurd hk (Nat.not_lt_zero _)⟩ (by omega) (by rw [hy7]; omega) (by rw [sx_l (by omega), hσn]) (by omega) (by omega) (by rw [hy7]; omega) (fun k k1 k2 => sx_g (by omega)) (by omega) (by omega) (by omega)
    rw [ew2] at X11
    have x12 := fun D P1 M1 => M_245 (F := F) (L := L) (xs := xs) (d := D) (m := M1) (p := P1) (dep := dep) (l := (y.1.length : Int) + 1) (by omega) (by omega)
    refine ⟨p11, put (put (put m11 158 39 (m11 158 40)) 158 40 (m9 158 40)) 181 ((y.1.length : Int) + 1).toNat (m11 158 41), ?_, ?_⟩
    · simp (disch := first | omega | assumption) only [c_231, tr_231, c_234, tx_234, ev_0, ev_1, ev_16, ev_17, ev_18, ev_2, ev_3, ev_4, ev_5, ev_6, ev_7, ev_8, ev_9, ev_20, ev_21, ev_22, ev_23, ev_24, ev_25, ev_27, ev_28, ev_30, ev_31, ev_32, ev_33, ev_34, ev_35, ev_36, ev_37, ev_38, ev_39, ev_40, ev_41, ev_42, ev_43, ev_45, ev_46, ev_47, ev_48, ev_49, ev_50, ev_51, ev_52, ev_54, ev_55, ev_57, ev_58, ev_59, k2_0, k2_1, k2_2, k3a, k3b, k4, o1_s, xbin_0, xbin_1, xbin_2, xbin_3, xbin_4, xbin_5, xbin_6, xbin_7, xbin_8, xbin_9, xbin_11, xbin_12, xun_0, xun_1, xun_2, xun_3, xun_4, xun_5, k6a, k8, k8b, k9, k20, k20b_0, k20b_1, k20b_2, k20b_3, k20b_4, k20b_5, k21_0, k21_1, k21_2, k21_3, k21_4, k21_5, k23, k24, k25, k27, k28, k40, nz_1, nz_2, nz_3, k31_0, k31_1, k31_2, k31_3, k32u, k33, k34, k35, k35b, k36, k37, k38, k47, k49, k49b_0, k49b_1, k49b_2, k49b_3, k50_0, k50_s, k51_0, k51_s, k55, k58, k58b, rk_0, rk_1, rk_2, rk_9, rk_3, rk_4, rk_5, sw_n, sw_c, xtb_n, xtb_c, lset_0, lset_2, lset_1, lkm_0, lkm_2, lkm_9, lkm_1, lkm_n, if_some1, c_10, c_01, c_x0, c_1x, c_n0, c_nn, List.getElem?_cons_zero, List.getElem?_cons_succ, List.set_cons_zero, List.set_cons_succ, List.length_cons, List.length_nil, Int.reduceToNat, Nat.reduceDiv, Nat.reduceMod, Nat.reduceSub, Nat.reduceAdd, Nat.reduceMul, Nat.reduceLT, Nat.reduceLeDiff, Nat.reduceEqDiff, Int.reduceMod, Int.reduceSub, Int.reduceNeg, Int.reduceAdd, Int.reduceMul, Int.reduceLT, Int.reduceLE, Int.reduceEq, put_ss, if_true, if_false, ite_true, ite_false, reduceIte, eq_self, and_true, true_and, and_false, false_and, or_true, true_or, or_false, false_or, not_true_eq_false, not_false_eq_true, k5_158_14, k34_158_14, k34i_158_14, k5_158_15, k34_158_15, k34i_158_15, k5_158_13, k34_158_13, k54_158_13, k54b_158_13_0, k54b_158_13_1, k5_158_48, k34_158_48, k5_158_5, k6_161, k35_161, n_161, k5_158_7, k6_163, k35_163, n_163, k5_158_12, k34_158_12, k54_158_12, k54b_158_12_0, k5_158_39, k34_158_39, k54_158_39, k54b_158_39_0, k5_158_40, k34_158_40, k5_158_33, k34_158_33, k5_158_46, k34_158_46, k54_158_46, k54b_158_46_0, rv_t, rv_d, rv_x, rv_y, rp_t, rp_d, rp_x, rp_y, w32_of, y_p, w_p, x1, xa, xb, hm1, c2, hm3, x4, x5, x6, hb6, hf6, l1_i, l1_1, l1_0, l2_0, l2_1, l2_2, l2_3, l3_0, w2_0, w2_1, w2_2, w2_3, d1_0, d1_1, d1_2, d1_3, d2_i, d2_1, d2_0, w0, w1, w2, x9, hm10, c11, x12, hb]
    · show Pst mc e ((fun y3 : yS => (fun c4 : zS => (fun c6 : zS => (c6.1, slb (y.1.length : Int) (c6.1.1.length : Int) c6.2)) (stS mc b H (y.1.length : Int) (y3.1.length : Int) (em 25 0 H c4.1, c4.2))) (wW mc b [] (em 23 (mc 68 4) (-1) (em 15 0 (y.1.length : Int) cA.1), y3))) (slb ((y.1.length : Int) + 1) ((em 15 0 (y.1.length : Int) cA.1).1.length : Int) cA.2)) y m _ σ D G H p q p11 0 0
      rw [hs4, hy6]
      show Pst mc e ((fun c4 : zS => (fun c6 : zS => (c6.1, slb (y.1.length : Int) (c6.1.1.length : Int) c6.2)) (stS mc b H (y.1.length : Int) (y6.1.length : Int) (em 25 0 H c4.1, c4.2))) (wW mc b [] (em 23 (mc 68 4) (-1) s4, y6))) y m _ σ D G H p q p11 0 0
      rw [hs6, ewW]
      show Pst mc e ((fun c6 : zS => (c6.1, slb (y.1.length : Int) (c6.1.1.length : Int) c6.2)) (stS mc b H (y.1.length : Int) (y6.1.length : Int) (em 25 0 H s8, (y6.1 ++ List.replicate (nW b) (-1), y6.2)))) y m _ σ D G H p q p11 0 0
      generalize hc11 : stS mc b H (y.1.length : Int) (y6.1.length : Int) (em 25 0 H s8, (y6.1 ++ List.replicate (nW b) (-1), y6.2)) = cB at *
      obtain ⟨F11, h110, h111, σ11, e11, Y11⟩ := X11
      have hex : ∀ k : Int, k < (y.1.length : Int) → σ11 k = σ k := fun k hk => by
        rw [e11 k (by rw [hy7]; omega), sx_l (by omega), e2 k (by rw [hy1]; omega), sy_l hk]
      refine ⟨FS_put (FS_put (FS_put (FS_tr F10 F11) rfl) rfl) rfl, h110, h111, σ11, hex, ?_⟩
      rcases Y11 with ⟨Y11, hp11⟩ | ⟨W11, B11⟩
      · left
        have u41 := Y11.o41
        have ulc := Y11.lc
        have uly := Y11.ly
        have u30 := Y11.l30
        have u40 := Y11.w40
        rw [hy7] at ulc uly
        have hσ11 : σ11 (y.1.length : Int) = (y.1.length : Int) + 1 := by rw [e11 _ (by rw [hy7]; omega), sx_l (by omega), hσn]
        have RF := SR_st (SR_39 (v := m11 158 40) (u := m9 158 40) Y11.sr ⟨by omega, by omega⟩) (l := (y.1.length : Int)) (by omega) (by omega)
        rw [hσ11] at RF
        have hyF : (slb (y.1.length : Int) (cB.1.1.length : Int) cB.2).1.length = cB.2.1.length := by
          unfold slb
          split
          · exact List.length_set
          · rfl
        refine ⟨⟨Y11.b0, RF, Y11.pz, by show m11 158 41 ≤ _; omega, ?_, ?_, by show m 158 30 ≤ m11 158 30; omega, by show m 158 39 = m11 158 40; omega, by show m 158 40 = m9 158 40; omega, fun k hk => ?_⟩, hp11⟩
        · show ((slb (y.1.length : Int) (cB.1.1.length : Int) cB.2).1.length : Int) ≤ _
          rw [hyF]
          omega
        · show _ ≤ ((slb (y.1.length : Int) (cB.1.1.length : Int) cB.2).1.length : Int)
          rw [hyF]
          omega
        · show m11 176 k = _
          rw [Y11.c176 k (by omega), o176, v176 k hk]
      · exact Or.inr ⟨W11, Br_le B11 (by omega) (Int.le_refl _)⟩
  · have pb : 0 ≤ p2 ∧ p2 < 3001 := ⟨q0, by omega⟩
    have hf2 := S2.fu
    generalize hm3 : put m2 158 48 (m 158 48) = m3 at *
    have hb3 : m3 158 15 = 1 := by rw [← hm3]; exact B2.1
    have hf3 : m3 158 14 = 1 := by rw [← hm3]; exact hf2
    have W3 : WU m3 := by rw [← hm3]; exact W2
    have x4 := fun D o1 a1 l1 => B_246 (F := F) (L := L) (xs := xs) (d := D) (m := rv p2 dep m3) (a1 := o1) (a2 := a1) (a3 := l1) hb3
    have x5 := fun D => M_245 (F := F) (L := L) (xs := xs) (d := D) (m := m3) (p := p2) (dep := dep) (l := (y.1.length : Int)) (by omega) (by omega)
    generalize hm5 : put m3 181 ((y.1.length : Int)).toNat (m3 158 41) = m5 at *
    have hb5 : m5 158 15 = 1 := by rw [← hm5]; exact hb3
    have hf5 : m5 158 14 = 1 := by rw [← hm5]; exact hf3
    have W5 : WU m5 := by rw [← hm5]; exact W3
    have x6 := fun D o1 a1 l1 => B_246 (F := F) (L := L) (xs := xs) (d := D) (m := rv p2 dep m5) (a1 := o1) (a2 := a1) (a3 := l1) hb5
    generalize hm7 : put m5 158 40 (m5 158 39) = m7 at *
    have hb7 : m7 158 15 = 1 := by rw [← hm7]; exact hb5
    have hf7 : m7 158 14 = 1 := by rw [← hm7]; exact hf5
    have W7 : WU m7 := by rw [← hm7]; exact W5
    have h740 : m7 158 40 = m5 158 39 := by rw [← hm7]; rfl
    have h739 : m7 158 39 = m5 158 39 := by rw [← hm7]; rfl
    have nlt : ¬ m5 158 39 < m5 158 39 := by omega
    have y1 := fun D => B_214 (F := F) (L := L) (xs := xs) (d := D) (m := rv p2 dep m7) (a1 := 8) hb7 pb
    have y2 := fun D => B_215 (F := F) (L := L) (xs := xs) (d := D) (m := rv p2 dep m7) hb7 pb
    have y3 := fun D => R_228 (F := F) (L := L) (xs := xs) (d := D) (m := m7) (p := p2) (dep := dep) (a := p2) hF W7 q0 (by omega)
    have e7 : cdM m7 p2 = m7 := if_neg (by omega)
    have e7' : cdV m7 p2 = 0 := if_neg (by omega)
    rw [e7, e7'] at y3
    have y4 := fun D => B_230 (F := F) (L := L) (xs := xs) (d := D) (m := m7) (p := p2) (dep := dep) W7 hF hb7 pb ⟨hd0, hd1⟩
    have y5 := fun D o1 a1 l1 => B_246 (F := F) (L := L) (xs := xs) (d := D) (m := rv p2 dep m7) (a1 := o1) (a2 := a1) (a3 := l1) hb7
    have y6 := fun D s => B_210 (F := F) (L := L) (xs := xs) (d := D) (m := rv p2 dep m7) (a1 := s) hb7
    obtain ⟨n9, hn9⟩ : ∃ n, F = n + 1 := ⟨F - 1, by omega⟩
    have c9 : ∀ s h, LF F (d + 10) la_234_4 lb_234_4 lc_234_4 F (s, h) = LF F (d + 10) la_234_4 lb_234_4 lc_234_4 (n9 + 1) (s, h) := fun s h => by rw [← hn9]
    have c10 : ∀ s h, LD F (d + 10) la_234_3 lb_234_3 F (s, h) = LD F (d + 10) la_234_3 lb_234_3 (n9 + 1) (s, h) := fun s h => by rw [← hn9]
    have x12 := fun D P1 M1 => M_245 (F := F) (L := L) (xs := xs) (d := D) (m := M1) (p := P1) (dep := dep) (l := (y.1.length : Int) + 1) (by omega) (by omega)
    have F3 : FS m m3 := by rw [← hm3]; exact FS_put F02 rfl
    have F5 : FS m m5 := by rw [← hm5]; exact FS_put F3 rfl
    have F7 : FS m m7 := by rw [← hm7]; exact FS_put F5 rfl
    refine ⟨p2, put (put (put m7 158 39 (m5 158 39)) 158 40 (m5 158 40)) 181 ((y.1.length : Int) + 1).toNat (m7 158 41), ?_, FS_put (FS_put (FS_put F7 rfl) rfl) rfl, q0, q1, σ, fun _ _ => rfl, Or.inr ⟨W7, ?_⟩⟩
    · simp (disch := first | omega | assumption) only [c_231, tr_231, c_234, tx_234, ev_0, ev_1, ev_16, ev_17, ev_18, ev_2, ev_3, ev_4, ev_5, ev_6, ev_7, ev_8, ev_9, ev_20, ev_21, ev_22, ev_23, ev_24, ev_25, ev_27, ev_28, ev_30, ev_31, ev_32, ev_33, ev_34, ev_35, ev_36, ev_37, ev_38, ev_39, ev_40, ev_41, ev_42, ev_43, ev_45, ev_46, ev_47, ev_48, ev_49, ev_50, ev_51, ev_52, ev_54, ev_55, ev_57, ev_58, ev_59, k2_0, k2_1, k2_2, k3a, k3b, k4, o1_s, xbin_0, xbin_1, xbin_2, xbin_3, xbin_4, xbin_5, xbin_6, xbin_7, xbin_8, xbin_9, xbin_11, xbin_12, xun_0, xun_1, xun_2, xun_3, xun_4, xun_5, k6a, k8, k8b, k9, k20, k20b_0, k20b_1, k20b_2, k20b_3, k20b_4, k20b_5, k21_0, k21_1, k21_2, k21_3, k21_4, k21_5, k23, k24, k25, k27, k28, k40, nz_1, nz_2, nz_3, k31_0, k31_1, k31_2, k31_3, k32u, k33, k34, k35, k35b, k36, k37, k38, k47, k49, k49b_0, k49b_1, k49b_2, k49b_3, k50_0, k50_s, k51_0, k51_s, k55, k58, k58b, rk_0, rk_1, rk_2, rk_9, rk_3, rk_4, rk_5, sw_n, sw_c, xtb_n, xtb_c, lset_0, lset_2, lset_1, lkm_0, lkm_2, lkm_9, lkm_1, lkm_n, if_some1, c_10, c_01, c_x0, c_1x, c_n0, c_nn, List.getElem?_cons_zero, List.getElem?_cons_succ, List.set_cons_zero, List.set_cons_succ, List.length_cons, List.length_nil, Int.reduceToNat, Nat.reduceDiv, Nat.reduceMod, Nat.reduceSub, Nat.reduceAdd, Nat.reduceMul, Nat.reduceLT, Nat.reduceLeDiff, Nat.reduceEqDiff, Int.reduceMod, Int.reduceSub, Int.reduceNeg, Int.reduceAdd, Int.reduceMul, Int.reduceLT, Int.reduceLE, Int.reduceEq, put_ss, if_true, if_false, ite_true, ite_false, reduceIte, eq_self, and_true, true_and, and_false, false_and, or_true, true_or, or_false, false_or, not_true_eq_false, not_false_eq_true, k5_158_14, k34_158_14, k34i_158_14, k5_158_15, k34_158_15, k34i_158_15, k5_158_13, k34_158_13, k54_158_13, k54b_158_13_0, k54b_158_13_1, k5_158_48, k34_158_48, k5_158_5, k6_161, k35_161, n_161, k5_158_7, k6_163, k35_163, n_163, k5_158_12, k34_158_12, k54_158_12, k54b_158_12_0, k5_158_39, k34_158_39, k54_158_39, k54b_158_39_0, k5_158_40, k34_158_40, k5_158_33, k34_158_33, k5_158_46, k34_158_46, k54_158_46, k54b_158_46_0, rv_t, rv_d, rv_x, rv_y, rp_t, rp_d, rp_x, rp_y, w32_of, y_p, w_p, x1, xa, xb, hm1, c2, hm3, x4, x5, x6, hb5, hf5, hm7, l1_i, l1_1, l1_0, l2_0, l2_1, l2_2, l2_3, l3_0, w2_0, w2_1, w2_2, w2_3, d1_0, d1_1, d1_2, d1_3, d2_i, d2_1, d2_0, c10, ld_s, ea_234_3, eb_234_3, y1, y2, y3, y4, y5, y6, c9, lf_s, ea_234_4, eb_234_4, ec_234_4, h740, h739, nlt, hb7, hf7, x12, hb]
    · have B3 : Br mc m7 cA.1 p r := by
        have := Br_le B2 (p' := p) (q' := r) (by omega) (Int.le_refl _)
        rw [← hm7, ← hm5, ← hm3]
        exact this
      obtain ⟨t1, t2, j, t3, t4, t5, t6⟩ := B3
      refine ⟨t1, t2, j, t3, by omega, t5, ?_⟩
      rw [← t6]
      have st : ∀ j1, r ≤ j1 → j1 < q → cA.1.2.2.2.1 ≤ mc 54 j1.toNat := fun j1 z1 z2 => by rw [t6]; exact S.mo j j1 (by omega) (by omega) (by omega)
      exact stS_nf (tsz b + 1) b (by omega) 11 dep r q (by decide) (by decide) h10 st H _ _ _ (wW_nf (tsz b + 1) b (by omega) dep r q h10 st [] _ rfl)
end Try
