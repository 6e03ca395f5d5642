/-! CLASS AND MODEL, THE SECOND WALK: behind a proc -/
section P8
variable {cd : Nat} {told first ml mx : Int} {mc : Mem}
theorem kpP_n (h0 : 0 ≤ mc 68 4) (h1 : mc 68 4 < 40) : kpP cd told first ml mx mc (cd + 5) (mc 68 4).toNat = told ∧ kpP cd told first ml mx mc (cd + 6) (mc 68 4).toNat = w32 (ml + 2) ∧ kpP cd told first ml mx mc (cd + 7) (mc 68 4).toNat = w32 (w32 (w32 (w32 (ml + 2) - told) + mx) + 3) ∧ kpP cd told first ml mx mc (cd + 8) (mc 68 4).toNat = first := by
  have e0 : kpP cd told first ml mx mc = put (put (put (put mc (cd + 5) (mc 68 4).toNat told) (cd + 6) (mc 68 4).toNat (w32 (ml + 2))) (cd + 7) (mc 68 4).toNat (w32 (w32 (w32 (w32 (ml + 2) - told) + mx) + 3))) (cd + 8) (mc 68 4).toNat first := if_neg (by omega)
  rw [e0]
  have n1 : ¬ cd + 5 = cd + 6 := by omega
  have n2 : ¬ cd + 5 = cd + 7 := by omega
  have n3 : ¬ cd + 5 = cd + 8 := by omega
  have n4 : ¬ cd + 6 = cd + 7 := by omega
  have n5 : ¬ cd + 6 = cd + 8 := by omega
  have n6 : ¬ cd + 7 = cd + 8 := by omega
  simp only [put_ss, n1, n2, n3, n4, n5, n6, if_true, if_false, and_self]
theorem kpP_o {a k : Nat} (h : k ≠ (mc 68 4).toNat ∨ ¬ (a = cd + 5 ∨ a = cd + 6 ∨ a = cd + 7 ∨ a = cd + 8)) : kpP cd told first ml mx mc a k = mc a k := by
  unfold kpP
  split
  · rfl
  · simp only [put_ss]
    rcases h with h | h
    · simp only [h, if_false, ite_self]
    · have n1 : ¬ a = cd + 5 := fun z => h (by omega)
      have n2 : ¬ a = cd + 6 := fun z => h (by omega)
      have n3 : ¬ a = cd + 7 := fun z => h (by omega)
      have n4 : ¬ a = cd + 8 := fun z => h (by omega)
      simp only [n1, n2, n3, n4, if_false]
theorem lg_x {c : Prop} [Decidable c] {m : Mem} {a k : Nat} (h : ¬ (a = 68 ∧ k = 15)) : (if c then put m 68 15 1 else m) a k = m a k := by
  split
  · rw [put_ss]
    by_cases h1 : a = 68
    · rw [if_pos h1, if_neg (fun z => h ⟨h1, z⟩)]
    · rw [if_neg h1]
  · rfl
theorem p8_n (hc : cd = 83 ∨ cd = 93) (h0 : 0 ≤ mc 68 4) (h1 : mc 68 4 < 40) : p8 cd told first ml mx mc (cd + 5) (mc 68 4).toNat = told ∧ p8 cd told first ml mx mc (cd + 6) (mc 68 4).toNat = w32 (ml + 2) ∧ p8 cd told first ml mx mc (cd + 7) (mc 68 4).toNat = w32 (w32 (w32 (w32 (ml + 2) - told) + mx) + 3) ∧ p8 cd told first ml mx mc (cd + 8) (mc 68 4).toNat = first := by
  have e4 : (if 16 < w32 (ml - told) then put mc 68 15 1 else mc) 68 4 = mc 68 4 := lg_4
  have := kpP_n (cd := cd) (told := told) (first := first) (ml := ml) (mx := mx) (mc := if 16 < w32 (ml - told) then put mc 68 15 1 else mc) (by omega) (by omega)
  rw [e4] at this
  unfold p8
  have n1 : ¬ cd + 5 = 68 := by omega
  have n2 : ¬ cd + 6 = 68 := by omega
  have n3 : ¬ cd + 7 = 68 := by omega
  have n4 : ¬ cd + 8 = 68 := by omega
  rw [put_ss, if_neg n1, put_ss, if_neg n2, put_ss, if_neg n3, put_ss, if_neg n4]
  exact this
theorem p8_o (hc : cd = 83 ∨ cd = 93) {a k : Nat} (ha : a ≠ 68) (h : k ≠ (mc 68 4).toNat) : p8 cd told first ml mx mc a k = mc a k := by
  have e4 : (if 16 < w32 (ml - told) then put mc 68 15 1 else mc) 68 4 = mc 68 4 := lg_4
  unfold p8
  rw [put_ss, if_neg ha, kpP_o (Or.inl (by rw [e4]; exact h)), lg_x (fun z => ha z.1)]
theorem p8_15 (hc : cd = 83 ∨ cd = 93) : p8 cd told first ml mx mc 68 15 = if 16 < w32 (ml - told) then 1 else mc 68 15 := by
  unfold p8
  rw [put_ss, if_pos rfl, if_neg (by decide), kpP_o (Or.inr (by omega))]
  split <;> rfl
end P8
/-- no call's fault behind, none ahead -/
theorem cf_xPr {cd : Nat} {mc : Mem} {K V : Int → Int} {a : xT} {p r B : Int} {s : xSt} {y : yS} (hP : PH K V a p r) (h0 : s.2.2.2.2 ≤ B) : (xPr cd mc a s y).1.2.2.2.2 ≤ B := by
  obtain ⟨i, pa, i2, ra, bk, rfl, r1, s1, g1, g2, g3, g4⟩ := inv_H hP
  have K1 : Qk mc (fun s : xSt => s.2.2.2.2 ≤ B) := by
    refine ⟨fun o a l s h => h, fun i s h => h, fun i n s h => ?_⟩
    show (if n = prm mc (nmI mc (idT mc i)) then s.2.2.2.2 else imin s.2.2.2.2 (plc mc i)) ≤ B
    split
    · exact h
    · unfold imin
      split
      · exact h
      · have h : s.2.2.2.2 ≤ B := h
        omega
  have b1 : (p1 mc i pa s y).1.2.2.2.2 ≤ B := by
    unfold p1
    split
    · exact h0
    · exact prF_inv K1 pa _ h0
  have b2 : (p2 mc i2 ra (p1 mc i pa s y).1).2.2.2.2 ≤ B := by
    unfold p2
    split
    · exact b1
    · exact rsF_inv K1 ra 0 _ b1
  exact stS_inv K1 bk _ 0 0 (em 0 (mc 68 4) (-1) (p2 mc i2 ra (p1 mc i pa s y).1), nlb (p1 mc i pa s y).2) b2
theorem TT_pr {cd : Nat} (hc : cd = 83 ∨ cd = 93) {v V : Int → Int} {e p r : Int} {a b : xT} {c : wS} {l : List Int} {rl : xLL} {ws : List Int} {m m' : Mem} {σ σ' : Int → Int} {D : Int} {G : Prop} (T : TT cd v e (nd 44 p a b) p c l rl ws m σ D G) (hP : PH (kd c.2.2.2) V a (p + 3) r) (hp : 0 ≤ p) (hr : r ≤ e) (hv : v (p + 1) ∉ l) (F : FT m m') (O : PrO cd c.2.2.2 a c.1 c.2.1 m m' σ' D G p r) : TT cd v e b r (xPr cd c.2.2.2 a c.1 c.2.1) (l ++ [v (p + 1)]) (rl ++ [rsT a]) ws m' σ' D G := by
  have hph := PH_lt hP
  have el := T.se.el
  have K := Kp_xPr (cd := cd) hc (m := c.2.2.2) (s := c.1) (y := c.2.1) hP
  have fq : FQ m m' := fun x k hk => by
    by_cases h170 : x = 170
    · subst h170; exact O.a170 k
    · refine F.1 x k ?_
      cases hz : ftB x k with
      | false => rfl
      | true =>
        exfalso
        unfold fqB at hk
        unfold ftB at hz
        simp only [Bool.or_eq_true, Bool.and_eq_true, beq_iff_eq] at hz hk
        omega
  have o41 := O.o41
  have olc := O.lc
  have t41 := T.o41
  have tlc := T.lc
  have t36 := T.r36
  have n25 := T.n25
  have v21 := T.v21
  have c24 := T.c24
  have t29 := T.t29
  have o25 := O.n25
  have hl1 : (l ++ [v (p + 1)]).length = l.length + 1 := by rw [List.length_append, List.length_singleton]
  have hpr : c.2.2.2 68 4 = m 158 25 := T.sr.pr
  have lx := O.sr.lx
  have lx1 : 0 ≤ (xPr cd c.2.2.2 a c.1 c.2.1).2.1.2.2.2.2 ∧ (xPr cd c.2.2.2 a c.1 c.2.1).2.1.2.2.2.2 ≤ 1600 := ⟨lx.2.1, lx.2.2⟩
  obtain ⟨td, td1, td2⟩ := O.td
  have o171 := O.a171 (m 158 25).toNat
  rw [if_pos rfl] at o171
  have ex8 : (xPr cd c.2.2.2 a c.1 c.2.1).2.2.2 = p8 cd (hN a) (c.1.1.length : Int) (xPr cd c.2.2.2 a c.1 c.2.1).2.1.2.2.2.2 (xPr cd c.2.2.2 a c.1 c.2.1).1.2.2.1 c.2.2.2 := by
    rw [← td]
    obtain ⟨i, pa, i2, ra, bk, rfl, -⟩ := inv_H hP
    rfl
  generalize hmx : (xPr cd c.2.2.2 a c.1 c.2.1).1.2.2.1 = mx at *
  generalize hml : (xPr cd c.2.2.2 a c.1 c.2.1).2.1.2.2.2.2 = ml at *
  have b171 : ∀ k : Nat, k ≠ (m 158 25).toNat → m' 171 k = m 171 k := fun k hk => by rw [O.a171 k, if_neg hk]
  refine ⟨SE_Kp (SE_FQ T.se fq) K, O.sr, O.b0, trivial, by omega, by omega, ?_, by omega, ?_, ?_, ?_, ?_, fun i => (fq 163 _ rfl).trans (T.vv i), fun k hk => ?_, ?_, ?_, fun k hk => ?_, ?_, ?_, ?_⟩
  · have := O.b36
    have := O.r36
    omega
  · rw [O.f21.1]; omega
  · rw [O.f21.2.1]; omega
  · rw [O.n29, hl1]; omega
  · have e1 : l ++ [v (p + 1)] ++ cT v b = l ++ cT v (nd 44 p a b) := by
      rw [List.append_assoc]
      rfl
    rw [e1]
    exact ⟨by rw [fq _ _ rfl]; exact T.tb.1, fun k hk => by rw [fq _ _ rfl]; exact T.tb.2 k hk⟩
  · have := T.pm (k + 1) (by show k + 1 < (hN a :: hnT b).length; rw [List.length_cons]; omega)
    have e1 : (hnT (nd 44 p a b)).getD (k + 1) 0 = (hnT b).getD k 0 := rfl
    rw [e1] at this
    rw [O.a170, o25, ← this]
    congr 1
    omega
  · rw [O.f21.2.2.1]
    exact ⟨T.lg.1, fun z => T.lg.2 z⟩
  · have e1 : dT v (nd 44 p a b) l = dT v b (l ++ [v (p + 1)]) := if_neg hv
    have := T.dd
    rw [e1] at this
    rw [K.1 54 _ (by decide) (by decide)]
    exact this
  · rw [ex8]
    by_cases hk2 : k = (m 158 25).toNat
    · subst hk2
      refine ⟨by omega, by omega, fun h40 => ?_⟩
      have h68 : (m 158 25).toNat = (c.2.2.2 68 4).toNat := by rw [hpr]
      obtain ⟨q5, q6, q7, q8⟩ := p8_n (told := hN a) (first := (c.1.1.length : Int)) (ml := ml) (mx := mx) (mc := c.2.2.2) hc (by omega) (by omega)
      have o170 : m' 170 (m 158 25).toNat = hN a := by
        rw [O.a170]
        have := T.pm 0 (by show 0 < (hN a :: hnT b).length; rw [List.length_cons]; omega)
        have e1 : (hnT (nd 44 p a b)).getD 0 0 = hN a := rfl
        rw [e1] at this
        rw [← this]
        congr 1
        omega
      have o182 := O.a182 (m 158 25).toNat
      rw [if_pos rfl] at o182
      rw [h68, q5, q6, q7, q8, ← h68, o170, o171, o182]
      refine ⟨rfl, ?_, fun g hcf => ?_, rfl⟩
      · rw [w32_of (by omega) (by omega)]
        omega
      · have h183 := O.a183 g hcf
        rw [hmx] at h183
        rw [h183, w32_l]
        rw [Int.add_assoc (w32 (w32 (ml + 2) - hN a)) mx 3, w32_l, w32_of (x := ml + 2) (by omega) (by omega)]
        congr 1
        omega
    · have hk3 : (k : Int) < m 158 25 := by omega
      have hk4 : k ≠ (c.2.2.2 68 4).toNat := by rw [hpr]; exact hk2
      rw [p8_o hc (by omega) hk4, p8_o hc (by omega) hk4, p8_o hc (by omega) hk4, p8_o hc (by omega) hk4, b171 k hk2, O.a170, O.a183n k hk2]
      have o182 := O.a182 k
      rw [if_neg hk2] at o182
      rw [o182]
      obtain ⟨z1, z2, z3⟩ := T.kp k hk3
      refine ⟨z1, z2, fun h40 => ?_⟩
      obtain ⟨z4, z5, z6, z7⟩ := z3 h40
      refine ⟨z4, z5, fun g hcf => z6 g ?_, z7⟩
      have c1 := cf_xPr (cd := cd) (mc := c.2.2.2) (s := c.1) (y := c.2.1) (B := c.1.2.2.2.2) hP (Int.le_refl _)
      have c2 := T.sr.rx.cf g
      omega
  · rw [ex8, p8_15 hc, w32_of (by omega) (by omega), ← o171]
    obtain ⟨z1, z2⟩ := T.la
    by_cases h16 : 16 < m' 171 (m 158 25).toNat
    · rw [if_pos h16]
      exact ⟨Or.inr rfl, fun _ => ⟨(m 158 25).toNat, by omega, h16⟩, fun _ => rfl⟩
    · rw [if_neg h16]
      refine ⟨z1, z2.trans ?_⟩
      constructor
      · rintro ⟨k, k1, k2⟩
        exact ⟨k, by omega, by rw [b171 k (by omega)]; exact k2⟩
      · rintro ⟨k, k1, k2⟩
        have hkn : k ≠ (m 158 25).toNat := fun z => h16 (by rw [← z]; exact k2)
        rw [b171 k hkn] at k2
        exact ⟨k, by omega, k2⟩
  · obtain ⟨q1, q2, q3, q4⟩ := T.rr
    have hr36 := O.r36
    refine ⟨by rw [List.length_append, List.length_singleton]; omega, ?_, fun k hk => ?_, fun k hk => ?_⟩
    · rw [List.flatten_append, List.length_append, List.flatten_singleton]
      omega
    · rw [List.length_append, List.length_singleton] at hk
      have o173 := O.a173 k
      have o174 := O.a174 k
      by_cases hk2 : k < rl.length
      · rw [if_neg (by omega)] at o173 o174
        rw [o173, o174, List.take_append_of_le_length (by omega), List.getD_eq_getElem?_getD, List.getElem?_append_left hk2, ← List.getD_eq_getElem?_getD]
        exact q3 k hk2
      · have hk3 : k = rl.length := by omega
        subst hk3
        rw [if_pos (by omega)] at o173 o174
        rw [o173, o174, List.take_left, List.getD_eq_getElem?_getD, List.getElem?_append_right (Nat.le_refl _), Nat.sub_self]
        refine ⟨q2, ?_⟩
        show _ = ((rsT a).length : Int)
        omega
    · rw [List.flatten_append, List.flatten_singleton] at hk ⊢
      rw [List.length_append] at hk
      by_cases hk2 : k < rl.flatten.length
      · rw [O.a175 k (by omega), List.getD_eq_getElem?_getD, List.getElem?_append_left hk2, ← List.getD_eq_getElem?_getD, inX_FQ fq]
        exact q4 k hk2
      · have h1 := O.a175n (k - rl.flatten.length) (by omega)
        have e1 : (m 158 36 + ((k - rl.flatten.length : Nat) : Int)).toNat = k := by omega
        rw [e1] at h1
        rw [h1, List.getD_eq_getElem?_getD, List.getD_eq_getElem?_getD, List.getElem?_append_right (by omega), inX_FQ fq, T.vv]
  · obtain ⟨q1, q2⟩ := T.vw
    exact ⟨by rw [O.f21.1]; exact q1, fun k hk => by rw [O.f21.2.2.2 k]; exact q2 k hk⟩
