/-! THE MODEL'S ORDERS MAY BE LAID -/
theorem ngo_no : ∀ {l : List It}, ngo l = 0 → ∀ i, i ∈ l → ¬ isG i
  | [], _, i, hi => absurd hi List.not_mem_nil
  | x :: l, h, i, hi => by
    have h2 : (if isG x then 1 else 0) + ngo l = 0 := h
    rw [List.mem_cons] at hi
    rcases hi with rfl | hi
    · intro c
      rw [if_pos c] at h2
      omega
    · exact ngo_no (by omega) i hi
theorem mem_ml2 {M : Mem} {n : Nat} {i : It} (hO : OK0 M n) : ∀ k, k ≤ n → i ∈ mlI M 0 k → ∃ q, q < k ∧ i ∈ dM M 0 (gsm M q) q
  | 0 => fun _ h => absurd h List.not_mem_nil
  | k + 1 => fun hk h => by
    have h : i ∈ mlI M 0 k ++ dM M 0 (ngo (mlI M 0 k)) k := h
    rw [List.mem_append, ngo_ml hO k (by omega)] at h
    rcases h with h | h
    · obtain ⟨q, a, b⟩ := mem_ml2 hO k (by omega) h
      exact ⟨q, by omega, b⟩
    · exact ⟨k, by omega, h⟩
theorem gNo_R {o : Int} (h : 0 < gNo o) : isR o ∨ isJ o := by
  unfold gNo at h
  by_cases c : o = 11
  · exact Or.inl (by omega)
  · rw [if_neg c] at h
    split at h
    · next z =>
      have := z
      first | omega | (rcases z with z | z | z | z | z | z | z | z | z | z | z | z | z | z <;> omega)
    · omega
section Mly
variable {M : Mem} {fe : Nat → Nat} {np n : Nat} {nv nc : Int} {sz wt h : Nat → Int}
/-- what else must hold of the model's arrays -/
def MD (M : Mem) (np n : Nat) (nv : Int) : Prop := M 158 41 = (n : Int) ∧ M 158 25 = (np : Int) ∧ M 158 21 = nv ∧ (1 ≤ np ∧ np ≤ 40) ∧ n ≤ 1400 ∧ (0 ≤ nv ∧ nv ≤ 60) ∧ (∀ k : Nat, (k : Int) < nv → 1 ≤ M 168 k ∧ M 168 k ≤ 500) ∧ (∀ i, i < n → M 179 i < 12000) ∧ (∀ p, p < np → (0 ≤ M 173 p ∧ M 173 p + M 174 p ≤ M 158 36) ∧ 0 ≤ M 174 p ∧ M 174 p ≤ 100) ∧ M 158 36 ≤ 1500 ∧ (∀ k : Nat, (k : Int) < M 158 36 → 0 ≤ M 175 k ∧ M 175 k ≤ 1600) ∧ M 158 83 = 8 ∧ M 158 84 = 38
theorem OK_mk (T : TyP (M 177) (M 178) (tgM M) fe np n (M 170) (M 168) nv nc sz wt h) (D : MD M np n nv) (hnc : nc ≤ 30) : OK0 M n := by
  obtain ⟨S, hfe, hq⟩ := T
  obtain ⟨d41, d25, d21, dnp, dn, dnv, d168, d179, dR, d36, d175, d83, d84⟩ := D
  intro i hi
  obtain ⟨p, hp, f1, f2⟩ := sg_find S np (Nat.le_refl _) i (by omega)
  obtain ⟨ml, mx, ⟨q1, q2, q3, q4⟩, -⟩ := hq p hp
  rcases sg_op S hp f1 f2 with ⟨a, b, c⟩ | ⟨a, b, c⟩ | ⟨c, a, b⟩
  · rw [a, b]
    exact ⟨by omega, by omega, fun _ => by omega, by omega, by omega, by omega, fun _ => by omega, by omega⟩
  · rw [a, b]
    have r := dR p hp
    exact ⟨by omega, by omega, fun _ => by omega, by omega, by omega, fun _ => by rw [Int.toNat_natCast]; omega, fun _ => by omega, by omega⟩
  · obtain ⟨u, u2, u3, u4, u5⟩ := q4 i c.1 c.2
    obtain ⟨t1, t2, t3, t4, t5, t6, t7, t8, t9, t10, t11, t12, t13⟩ := u
    have hl : isR (M 177 i) ∨ isJ (M 177 i) → 0 ≤ M 179 i := fun w => by
      have z : 0 < tgM M i := by
        rcases w with w | w
        · have := (u4 w).1
          omega
        · have := (u5 w).1
          omega
      unfold tgM at z
      by_cases c : M 179 i < 0
      · rw [if_pos c] at z
        omega
      · omega
    have h179 := d179 i hi
    generalize M 177 i = o at *
    generalize M 178 i = x at *
    generalize M 179 i = l at *
    have hx : (0 ≤ x ∧ x ≤ 32767) ∧ (o ≠ 1 → x < 1600) := by
      have hcs : o = 1 ∨ (o = 2 ∨ o = 3) ∨ (o = 4 ∨ o = 5) ∨ (o = 6 ∨ o = 7) ∨ o = 14 ∨ o = 17 ∨ (o = 21 ∨ o = 24) ∨ (o = 22 ∨ o = 23) ∨ (8 ≤ o ∧ o ≤ 13 ∨ o = 15 ∨ o = 16 ∨ o = 18 ∨ o = 19 ∨ o = 20 ∨ o = 25) := by omega
      rcases hcs with w | w | w | w | w | w | w | w | w
      · have := t3 w; omega
      · have := t4 w; omega
      · have := (t5 w).1; omega
      · have := t6 w; omega
      · have := t7 w; omega
      · have := t8 w; omega
      · have := t9 w; omega
      · have := t10 w; omega
      · have := t13 w; omega
    refine ⟨by omega, by omega, fun w => ⟨by omega, hx.2 (by omega)⟩, t7, fun w => ⟨hl (by omega), h179⟩, fun w => by omega, fun w => ?_, fun w => by have := t6 w; omega⟩
    rcases w with w | w | w | w
    · omega
    · have := t10 (Or.inl w); omega
    · have := t10 (Or.inr w); omega
    · omega
theorem ml_len (hO : OK0 M n) (hR : ∀ i, i < n → M 177 i = 26 → M 174 (M 178 i).toNat ≤ 100) {E : Nat → Int} : ∀ i, i ≤ n → (mlI (fv E M) 0 i).length ≤ 25 * i + 300 * c26 (M 177) i
  | 0 => fun _ => Nat.le_refl _
  | i + 1 => fun hi => by
    have ih := ml_len hO hR (E := E) i (by omega)
    obtain ⟨o1, o2, o3, o4, -⟩ := hO i (by omega)
    have z := hR i (by omega)
    show (mlI (fv E M) 0 i ++ dM (fv E M) 0 (ngo (mlI (fv E M) 0 i)) i).length ≤ 25 * (i + 1) + 300 * (c26 (M 177) i + (if M 177 i = 26 then 1 else 0))
    rw [List.length_append, dM_f]
    have l := itO_l (o := M 177 i) (f0 := decide (E (ngo (mlI (fv E M) 0 i)) = 1)) (f1 := decide (E (ngo (mlI (fv E M) 0 i) + 1) = 1)) (lk := M 181 (M 179 i).toNat) (x := M 178 i) (y := yM (pv (fun _ => 0) (cq M 0 (i + 1)) M) (M 177 i) (M 178 i)) (y2 := wtM M (M 178 i).toNat) (y3 := szM M (M 178 i).toNat) (cs := csM M (M 178 i)) o1 o4
    have lc : (csM M (M 178 i)).length = (M 174 (M 178 i).toNat).toNat := by
      unfold csM
      exact rcM_l _ _ _
    by_cases c : M 177 i = 26
    · have := z c
      rw [if_pos c] at l ⊢
      omega
    · rw [if_neg c] at l ⊢
      omega
theorem LM_mk {e0 : Int} (T : TyP (M 177) (M 178) (tgM M) fe np n (M 170) (M 168) nv nc sz wt h) (D : MD M np n nv) (hnc : nc ≤ 30) (hsz : ∀ p, p < np → sz p = M 170 p + 2 + M 171 p) (hwt : ∀ p, p < np → wt p = w32 (2 + M 171 p + M 183 p + 3)) : LM M e0 n := by
  have hO := OK_mk T D hnc
  have T0 := T
  obtain ⟨S, hfe, hq⟩ := T
  obtain ⟨d41, d25, d21, dnp, dn, dnv, d168, d179, dR, d36, d175, d83, d84⟩ := D
  have f01 : fe 0 + 4 ≤ fe 1 := (S.2 0 (by omega)).1
  have f0 := S.1
  have fm := sg_mo S (p := 1) np (by omega) (Nat.le_refl _)
  have hpr : ∀ p : Nat, p < np → (0 ≤ M 170 p ∧ M 170 p ≤ 1510) ∧ (0 ≤ szM M p ∧ szM M p ≤ 1600) ∧ (0 ≤ wtM M p ∧ wtM M p ≤ 5000) := fun p hp => by
    obtain ⟨ml, mx, ⟨q1, -⟩, q5, q6, q7⟩ := hq p hp
    rw [hsz p hp] at q5
    rw [hwt p hp] at q6
    have e1 : szM M p = M 170 p + 2 + M 171 p := by
      unfold szM
      rw [w32_l]
      exact w32_of (by omega) (by omega)
    have e2 : wtM M p = w32 (2 + M 171 p + M 183 p + 3) := by
      unfold wtM
      rw [w32_l, show w32 (2 + M 171 p) + M 183 p + 3 = w32 (2 + M 171 p) + (M 183 p + 3) by omega, w32_l, show 2 + M 171 p + (M 183 p + 3) = 2 + M 171 p + M 183 p + 3 by omega]
    rw [e1, e2]
    exact ⟨by omega, by omega, by omega⟩
  refine ⟨hO, d41, ⟨by omega, by omega⟩, ?_, fun Q c E hE hc0 hc1 => ?_, fun E hE i hi => ?_, fun E hE i hi hg => ?_⟩
  · have z := (S.2 0 (by omega)).2.1.1
    rw [f0] at z
    exact z
  · refine ⟨fun k => hE k, d83, d84, ⟨hc0, hc1⟩, fun k hk => ?_, fun k hk => ?_, fun k hk => ?_, fun k hk => ?_, fun k hk => ?_⟩
    · have hk : (k : Int) < M 158 21 := hk
      have := d168 k (by omega)
      show -1000000 ≤ M 168 k ∧ M 168 k ≤ 1000000
      omega
    · have hk : (k : Int) < M 158 25 := hk
      have := hpr k (by omega)
      show -1000000 ≤ M 170 k ∧ M 170 k ≤ 1000000
      omega
    · have hk : (k : Int) < M 158 25 := hk
      have := hpr k (by omega)
      show -1000000 ≤ szM M k ∧ szM M k ≤ 1000000
      omega
    · have hk : (k : Int) < M 158 25 := hk
      have := hpr k (by omega)
      show -1000000 ≤ wtM M k ∧ wtM M k ≤ 1000000
      omega
    · have hk : (k : Int) < M 158 36 := hk
      have := d175 k hk
      show -1000000 ≤ M 175 k ∧ M 175 k ≤ 1000000
      omega
  · have l := ml_len hO (fun i hi h26 => by
      obtain ⟨p, hp, f1, f2⟩ := sg_find S np (Nat.le_refl _) i (by omega)
      rcases sg_op S hp f1 f2 with ⟨a, b, c⟩ | ⟨a, b, c⟩ | ⟨c, a, b⟩
      · omega
      · rw [b, Int.toNat_natCast]
        exact (dR p hp).2.2
      · omega) (E := E) i hi
    have c1 := c26_mo (O := M 177) (i := i) n hi
    have c2 := sg_26e S np (Nat.le_refl _)
    rw [hfe] at c2
    omega
  · unfold itA at hi
    rw [List.mem_append] at hi
    rcases hi with hi | hi
    · exact absurd hg (ngo_no hdI_g.1 i hi)
    · obtain ⟨q, hq1, hq2⟩ := mem_ml2 (M := fv E M) hO n (Nat.le_refl _) hi
      obtain ⟨o1, o2, o3, o4, -⟩ := hO q hq1
      rw [dM_f] at hq2
      have g := itO_gn o1 o4 i hq2
      have ng : 0 < gNo (M 177 q) := by
        have z : ngo (itO (M 177 q) (decide (E (gsm (fv E M) q) = 1)) (decide (E (gsm (fv E M) q + 1) = 1)) (M 181 (M 179 q).toNat) (M 178 q) (yM (pv (fun _ => 0) (cq M 0 (q + 1)) M) (M 177 q) (M 178 q)) (wtM M (M 178 q).toNat) (szM M (M 178 q).toNat) (csM M (M 178 q))) = gNo (M 177 q) := itO_g o1 o4
        rcases Nat.eq_zero_or_pos (gNo (M 177 q)) with w | w
        · rw [w] at z
          exact absurd hg (ngo_no z i hq2)
        · exact w
      have hr := gNo_R ng
      obtain ⟨p, hp, f1, f2⟩ := sg_find S np (Nat.le_refl _) q (by omega)
      obtain ⟨ml, mx, ⟨q1, q2, q3, q4⟩, -⟩ := hq p hp
      have fp := sg_mo S (p := p + 1) np (by omega) (Nat.le_refl _)
      rcases sg_op S hp f1 f2 with ⟨a, b, c⟩ | ⟨a, b, c⟩ | ⟨c, a, b⟩
      · omega
      · omega
      · obtain ⟨u, u2, u3, u4, u5⟩ := q4 q c.1 c.2
        have z : (fe p : Int) < tgM M q ∧ tgM M q < (fe (p + 1) : Int) := by
          rcases hr with w | w
          · exact (u4 w).1
          · exact (u5 w).1
        have e1 : tgM M q = M 181 (M 179 q).toNat := by
          unfold tgM at z ⊢
          by_cases c : M 179 q < 0
          · rw [if_pos c] at z
            omega
          · rw [if_neg c]
        rw [g.1 hg, ← e1]
        omega
end Mly
