/-! A GOOD TEXT: both lay it alike, whole -/
section Bth
variable {mc mr j' m' m5 : Mem} {e p' mn : Int} {cd : Nat} {t : xT} {V' : Nat → Int} {σ : Int → Int}
/-- the model's memory when it begins to lay -/
def mLay (p' : Int) (m' : Mem) : Mem := put (put (rv p' 0 m') 158 83 8) 158 84 38
theorem mL_o {a k : Nat} (h : a ≠ 158) : mLay p' m' a k = m' a k := by
  unfold mLay
  rw [put_ss, if_neg h, put_ss, if_neg h]
  unfold rv
  rw [if_neg h]
theorem mL_k {k : Nat} (h : k ≠ 12 ∧ k ≠ 13 ∧ k ≠ 83 ∧ k ≠ 84) : mLay p' m' 158 k = m' 158 k := by
  unfold mLay
  rw [put_ss, if_pos rfl, if_neg h.2.2.2, put_ss, if_pos rfl, if_neg h.2.2.1]
  unfold rv
  rw [if_pos rfl, if_neg h.1, if_neg h.2.1]
theorem vsm_o {k : Nat} : vsm (mLay p' m') k = vsm m' k := by
  induction k with
  | zero => rfl
  | succ k ih =>
    show vsm (mLay p' m') k + mLay p' m' 168 k = vsm m' k + m' 168 k
    rw [ih, mL_o (by decide)]
theorem A5 (hc : cd = 83 ∨ cd = 93) (J : Ju mc mr e) (h8 : mc 57 8 = 0) (hn4 : 0 ≤ mc 57 4 ∧ mc 57 4 < 1510) (hm5 : m5 = gE t (gv e V' mc)) (hP : PT (kd mc) (VF V') t 0 e) (fr : Fr (kd mc) (fun k => mc 55 k) V' 0 e) (K5 : Kt (gv e V' mc) (gT t (gv e V' mc))) (G5 : GJ (gT t (gv e V' mc)) e) (k85 : Kp (m85 cd m5) (r85 cd t m5).2.2.2) (T5 : TCs m5 (sT (fun i => mr 163 i.toNat) t s6)) (S5 : TS j' (sT (fun i => mr 163 i.toNat) t s6)) (TTn : TT cd (fun i => mr 163 i.toNat) e (nd 40 0 xz xz) e (xTo cd t (cst cd m5)) (fiveC ++ cT (fun i => mr 163 i.toNat) t) (rT t) (vwT (fun i => mr 163 i.toNat) t) m' σ 3001 True) (E7n : E7 (mI2 (m2M j' mr e)) m' (kT t)) (hnf : (r85 cd t m5).1.2.2.2.1 = 3001) (hcf : (r85 cd t m5).1.2.2.2.2 = 3001) (hx : ¬ exC m5) (h15 : (r85 cd t m5).2.2.2 68 15 = 0) (hPA : ∀ k, -1000000 ≤ (r85 cd t m5).2.2.2 (cd + 5) k ∧ (r85 cd t m5).2.2.2 (cd + 5) k ≤ 1000000) (hmn : mnC (c6M cd t e m5) = mn) (hmn1 : mn ≠ -1) : ∃ fe, TyP (mLay p' m' 177) (mLay p' m' 178) (tgM (mLay p' m')) fe (rT t).length (r85 cd t m5).1.1.length (mLay p' m' 170) (mLay p' m' 168) ((vwT (fun i => mr 163 i.toNat) t).length : Int) (m5 57 6) (fun p => mLay p' m' 170 p + 2 + mLay p' m' 171 p) (fun p => w32 (2 + mLay p' m' 171 p + mLay p' m' 183 p + 3)) (hgt (m85 cd m5) (r85 cd t m5).1.1) ∧ MD (mLay p' m') (rT t).length (r85 cd t m5).1.1.length ((vwT (fun i => mr 163 i.toNat) t).length : Int) ∧ m5 57 6 ≤ 30 ∧ CDt (put (c6M cd t e m5) 71 1 (cd : Int)) cd (mLay p' m') fe (rT t).length (r85 cd t m5).1.1.length ((vwT (fun i => mr 163 i.toNat) t).length : Int) mn (fun p => mLay p' m' 170 p + 2 + mLay p' m' 171 p) (fun p => w32 (2 + mLay p' m' 171 p + mLay p' m' 183 p + 3)) := by
  obtain ⟨C, hcv, L5, hkd, V5, h54, h574, h515⟩ := A1 J h8 hm5 hP fr K5 G5 T5
  have hJ61 := J.2.2.2.2.2.2.1
  have he0 := J.1.1
  have he := J.2.2.2.2.2.2.2.2.2.1
  have er : r85 cd t m5 = xTo cd t (cst cd m5) := rfl
  have hK : ∀ a k, a < 83 → a ≠ 68 → (xTo cd t (cst cd m5)).2.2.2 a k = m5 a k := fun a k h1 h2 => by
    have z := k85.1 a k h1 h2
    rw [m85_o h2, er] at z
    exact z
  have nf : NF (xTo cd t (cst cd m5)).1 := by
    rw [er] at hnf hcf
    exact ⟨by omega, by omega⟩
  have h61 : ∀ k : Nat, (k : Int) < m5 57 4 → m5 61 k = -1 := fun k hk => by
    rw [h574] at hk
    have z : m5 61 k = mc 61 k := by
      rw [hm5]
      unfold gE
      rw [put_ss, if_neg (by decide)]
      exact K5.1 61 k (by omega)
    have w := hJ61 (k : Int) (Int.natCast_nonneg _) hk
    rw [Int.toNat_natCast] at w
    rw [z, w]
  obtain ⟨h25, fe, PGf⟩ := A2 hc C ⟨he0, he⟩ hkd hP h61 TTn nf
  have hO := Or_fin (V := VF V') hc (c := cst cd m5) (by show PT (kd (m85 cd m5)) (VF V') t 0 e; rw [show kd (m85 cd m5) = kd mc from by rw [← hkd]; funext i; unfold kd; rw [m85_o (by decide), m85_o (by decide)]]; exact hP) he0 (by omega) rfl rfl TTn
  have h170 := A5a hP T5 S5 E7n
  obtain ⟨vw1, vw2⟩ := TTn.vw
  have x16 : ¬ m5 57 16 = 1 := fun w => hx (Or.inl w)
  have x7 : m5 57 7 ≤ 40 := Int.not_lt.mp (fun w => hx (Or.inr (Or.inl w)))
  have x6 : m5 57 6 ≤ 30 := Int.not_lt.mp (fun w => hx (Or.inr (Or.inr (Or.inl w))))
  have x5 : m5 57 5 ≤ 60 := Int.not_lt.mp (fun w => hx (Or.inr (Or.inr (Or.inr w))))
  have h40 : (rT t).length ≤ 40 := by
    have := hcv.2.1.1
    omega
  have hkp : ∀ k, k < (rT t).length → (xTo cd t (cst cd m5)).2.2.2 (cd + 5) k = m' 170 k ∧ (xTo cd t (cst cd m5)).2.2.2 (cd + 6) k = m' 170 k + 2 + m' 171 k ∧ (xTo cd t (cst cd m5)).2.2.2 (cd + 7) k = w32 (2 + m' 171 k + m' 183 k + 3) ∧ (xTo cd t (cst cd m5)).2.2.2 (cd + 8) k = m' 182 k := fun k hk => by
    obtain ⟨-, -, z⟩ := TTn.kp k (by rw [h25]; omega)
    obtain ⟨z1, z2, z3, z4⟩ := z (by omega)
    exact ⟨z1, z2, z3 trivial (by rw [er] at hcf; exact hcf), z4⟩
  have T := A4 (mr := mr) hc hO PGf h40 (by rw [← er]; exact h15) hcv h170 vw2 (fun k hk => by have z := hkp k hk; exact ⟨z.1, z.2.1, z.2.2.1⟩)
  have hRk := RsK_To (V := VF V') (m0 := m85 cd m5) hc (XC0_m (fun a k _ h2 => m85_o h2) C) (tsz t + 1) t (by omega) 0 (cst cd m5) (by show PT (kd (m85 cd m5)) (VF V') t 0 e; rw [show kd (m85 cd m5) = kd mc from by rw [← hkd]; funext i; unfold kd; rw [m85_o (by decide), m85_o (by decide)]]; exact hP) (Int.le_refl 0) Kp_rf nf
  have hR5 : ∀ l ∈ rT t, RsK m5 e l := fun l hl => by
    have z := hRk l hl
    have k1 : kI (m85 cd m5) = kI m5 := by
      funext i
      unfold kI
      rw [m85_o (by decide), m85_o (by decide)]
    have k2 : idT (m85 cd m5) = idT m5 := by
      funext i
      unfold idT
      rw [m85_o (by decide), m85_o (by decide)]
    have k3 : kd (m85 cd m5) = kd m5 := by
      funext i
      unfold kd
      rw [m85_o (by decide), m85_o (by decide)]
    unfold RsK at z ⊢
    rw [k1, k2, k3] at z
    exact z
  obtain ⟨ra, rb, rc⟩ := A5c (mr := mr) TTn hK rfl C hcv x6 hR5
  have h179 := A5b (V := VF V') hc hP he TTn
  have o41 := TTn.o41
  have r36 := TTn.r36
  have hflag : (sT (fun i => mr 163 i.toNat) t s6).2.2.2.2.1 = false := by
    cases hb : (sT (fun i => mr 163 i.toNat) t s6).2.2.2.2.1 with
    | false => rfl
    | true => exact absurd (T5.2.2.2.2.2.1.2 (Or.inl hb)) x16
  have hw500 := L5.2.2.2.2 hflag
  -- main
  have c4 : ∀ a k, a < 83 → a ≠ 61 ∧ a ≠ 68 ∧ a ≠ 69 ∧ a ≠ 70 → c6M cd t e m5 a k = m5 a k := fun a k h1 h2 => c6_o hc k85 h1 h2
  have q4 : ∀ a k, a < 83 → a ≠ 61 ∧ a ≠ 68 ∧ a ≠ 69 ∧ a ≠ 70 → a ≠ 71 → put (c6M cd t e m5) 71 1 (cd : Int) a k = m5 a k := fun a k h1 h2 h3 => by
    rw [put_ss, if_neg h3]
    exact c4 a k h1 h2
  have m4 : c6M cd t e m5 57 4 = mc 57 4 := by rw [c4 57 4 (by decide) (by decide)]; exact h574
  have hfd := mnC_nf (m := c6M cd t e m5) (by rw [m4]; exact hn4.1) (by rw [hmn]; exact hmn1)
  have e58 : put (c6M cd t e m5) 71 1 (cd : Int) 58 = c6M cd t e m5 58 := funext fun k => by rw [put_ss, if_neg (by decide)]
  have e57 : ∀ k, put (c6M cd t e m5) 71 1 (cd : Int) 57 k = c6M cd t e m5 57 k := fun k => by rw [put_ss, if_neg (by decide)]
  have hnm : nmI (put (c6M cd t e m5) 71 1 (cd : Int)) = nmI m5 := by
    funext i
    unfold nmI
    rw [q4 57 4 (by decide) (by decide) (by decide), q4 60 _ (by decide) (by decide) (by decide)]
  have hkI : kI (put (c6M cd t e m5) 71 1 (cd : Int)) = kI m5 := by
    funext i
    unfold kI
    rw [q4 57 4 (by decide) (by decide) (by decide), q4 59 _ (by decide) (by decide) (by decide)]
  have hnm6 : nmI (c6M cd t e m5) = nmI m5 := by
    funext i
    unfold nmI
    rw [c4 57 4 (by decide) (by decide), c4 60 _ (by decide) (by decide)]
  have hkI6 : kI (c6M cd t e m5) = kI m5 := by
    funext i
    unfold kI
    rw [c4 57 4 (by decide) (by decide), c4 59 _ (by decide) (by decide)]
  have hpr : prm (put (c6M cd t e m5) 71 1 (cd : Int)) = prm (c6M cd t e m5) := by
    funext i
    unfold prm
    rw [q4 57 7 (by decide) (by decide) (by decide), q4 64 _ (by decide) (by decide) (by decide), c4 57 7 (by decide) (by decide), c4 64 _ (by decide) (by decide)]
  have xf : fst1 (put (c6M cd t e m5) 71 1 (cd : Int) 58) 660205 0 (put (c6M cd t e m5) 71 1 (cd : Int) 57 4).toNat ≠ -1 := by
    rw [e58, e57]
    exact hfd
  have xm : mnC (put (c6M cd t e m5) 71 1 (cd : Int)) = mn := by
    rw [← hmn, mnC_f hfd, mnC_f xf, hkI, hnm, hpr, e58, e57, hkI6, hnm6]
  have xmn : 0 ≤ mn ∧ mn < ((rT t).length : Int) := by
    have z := hmn
    rw [mnC_f hfd, hkI6, hnm6] at z
    by_cases c : kI m5 (fst1 (c6M cd t e m5 58) 660205 0 (c6M cd t e m5 57 4).toNat) = 4 ∧ prm (c6M cd t e m5) (nmI m5 (fst1 (c6M cd t e m5 58) 660205 0 (c6M cd t e m5 57 4).toNat)) = 0
    · rw [if_pos c] at z
      have w := (C.1 _).2.2.2 c.1
      rw [z, hcv.2.1.1] at w
      exact w
    · rw [if_neg c] at z
      exact absurd z.symm hmn1
  have n5 := sT_n (v := fun i => mr 163 i.toNat) (tsz t + 1) t (by omega) 0 s6 hP
  have xn : ∀ f : Int, -1000000 ≤ nmI (put (c6M cd t e m5) 71 1 (cd : Int)) f ∧ nmI (put (c6M cd t e m5) 71 1 (cd : Int)) f ≤ 1000000 := fun f => by
    rw [hnm]
    exact nmI_b T5 (NI_T (v := fun i => mr 163 i.toNat) (tsz t + 1) t (by omega) 0 s6 hP NI_6) ⟨by have := T5.2.1; omega, by have := T5.2.2.1; omega, by have := T5.2.2.2.1; omega⟩ f
  refine ⟨fe, ?_, ?_, x6, ?_⟩
  · have g1 : mLay p' m' 177 = m' 177 := funext fun k => mL_o (by decide)
    have g2 : mLay p' m' 178 = m' 178 := funext fun k => mL_o (by decide)
    have g3 : mLay p' m' 170 = m' 170 := funext fun k => mL_o (by decide)
    have g4 : mLay p' m' 168 = m' 168 := funext fun k => mL_o (by decide)
    have g5 : mLay p' m' 171 = m' 171 := funext fun k => mL_o (by decide)
    have g6 : mLay p' m' 183 = m' 183 := funext fun k => mL_o (by decide)
    have g7 : tgM (mLay p' m') = tgM m' := funext fun k => by
      unfold tgM
      rw [mL_o (by decide), mL_o (by decide)]
    rw [g1, g2, g3, g4, g5, g6, g7, er]
    exact T
  · refine ⟨by rw [mL_k (by decide), er]; exact hO.1, by rw [mL_k (by decide)]; exact h25, by rw [mL_k (by decide)]; exact vw1.symm, ⟨by omega, h40⟩, ?_, ⟨by omega, by have := hcv.1.1; omega⟩, fun k hk => ?_, fun i hi => by rw [mL_o (by decide)]; exact h179 i hi, fun p hp => ?_, by rw [mL_k (by decide)]; omega, fun k hk => ?_, rfl, rfl⟩
    · have := hO.1
      rw [er]
      omega
    · rw [mL_o (by decide), vw2 k (by omega)]
      refine hw500 _ ?_
      have hk2 : k < (vwT (fun i => mr 163 i.toNat) t).length := by omega
      rw [List.getD_eq_getElem?_getD, List.getElem?_eq_getElem hk2]
      exact List.getElem_mem hk2
    · rw [mL_o (by decide), mL_o (by decide), mL_k (by decide)]
      exact (ra p hp).2
    · rw [mL_k (by decide)] at hk
      rw [mL_o (by decide)]
      exact (rb k hk).2
  · refine ⟨hc, ⟨rfl, ?_⟩, fun i hi => ?_, ⟨?_, ?_, ?_, ?_, ?_⟩, fun k hk => ?_, fun p hp => ?_, fun p => ?_, fun p hp => ?_, fun k hk => ?_, xn, xf, xm, xmn⟩
    · rw [put_ss, if_neg (by omega)]
      exact c6_0 hc
    · obtain ⟨a1, a2, a3⟩ := c6_n (e := e) hc hi
      obtain ⟨b1, b2, b3⟩ := hO.2 i hi
      rw [put_ss, if_neg (by omega), put_ss, if_neg (by omega), put_ss, if_neg (by omega), a1, a2, a3, mL_o (by decide), mL_o (by decide)]
      refine ⟨b1.symm, b2.symm, ?_⟩
      unfold tgM
      rw [mL_o (by decide), mL_o (by decide)]
      exact b3.symm
    · rw [q4 57 5 (by decide) (by decide) (by decide)]
      exact hcv.1.1
    · rw [q4 57 7 (by decide) (by decide) (by decide)]
      exact hcv.2.1.1
    · rw [q4 57 14 (by decide) (by decide) (by decide), mL_k (by decide)]
      exact rc
    · rw [q4 57 4 (by decide) (by decide) (by decide), h574]
      exact hn4
    · rw [q4 57 8 (by decide) (by decide) (by decide), hcv.1.2.2, Int.toNat_natCast, vsm_o]
      exact usm_vsm _ (fun k hk => by rw [(hcv.1.2.1 k hk).1, vw2 k hk])
    · have hk2 : k < (vwT (fun i => mr 163 i.toNat) t).length := by omega
      rw [q4 63 k (by decide) (by decide) (by decide), q4 62 k (by decide) (by decide) (by decide), mL_o (by decide), vsm_o]
      obtain ⟨a1, -, a3⟩ := hcv.1.2.1 k hk2
      refine ⟨by rw [a1, vw2 k hk2], ?_⟩
      rw [a3]
      exact usm_vsm _ (fun j hj => by rw [(hcv.1.2.1 j (by omega)).1, vw2 j (by omega)])
    · obtain ⟨z1, z2, z3, z4⟩ := hkp p hp
      obtain ⟨told, ml, mx, -, w, -⟩ := PGf.2.2.2.2 p hp
      have w4 := (w (by omega)).2.2.2
      rw [put_ss, if_neg (by omega), put_ss, if_neg (by omega), put_ss, if_neg (by omega), put_ss, if_neg (by omega), c6_c hc (by omega), c6_c hc (by omega), c6_c hc (by omega), c6_c hc (by omega), er, mL_o (by decide), mL_o (by decide)]
      refine ⟨z1, ?_, ?_, w4, by rw [← z4]; exact w4⟩
      · show _ = mLay p' m' 170 p + 2 + mLay p' m' 171 p
        rw [mL_o (by decide), mL_o (by decide)]
        exact z2
      · show _ = w32 (2 + mLay p' m' 171 p + mLay p' m' 183 p + 3)
        rw [mL_o (by decide), mL_o (by decide)]
        exact z3
    · unfold PAc
      split
      · exact ⟨by decide, by decide⟩
      · rw [put_ss, if_neg (by omega), c6_c hc (by omega)]
        exact hPA _
    · rw [q4 66 p (by decide) (by decide) (by decide), q4 66 (p + 1) (by decide) (by decide) (by decide), mL_o (by decide), mL_o (by decide)]
      exact (ra p hp).1
    · rw [mL_k (by decide)] at hk
      rw [hnm, q4 65 k (by decide) (by decide) (by decide), mL_o (by decide)]
      exact (rb k hk).1
end Bth
