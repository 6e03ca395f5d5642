/-! A GOOD TEXT: what else the simulation asks -/
section Gd8
variable {mc mr j' m' m5 M : Mem} {e p' mn : Int} {cd : Nat} {t : xT} {V' : Nat → Int} {σ : Int → Int} {np n : Nat} {fe : Nat → Nat} {h pr vw sz wt : Nat → Int} {nv nc : Int} {pm : Int → Int}
/-- locals are set before they are taken -/
theorem A8u {l : xO} {lb : List Int} {lc gs : Nat → Int} (B : BQ pm l lb lc gs) (hO : ∀ k, k < l.length → M 177 k = opk l k ∧ M 178 k = agk l k ∧ tgM M k = lbl lb (lbk l k)) (T : TyP (M 177) (M 178) (tgM M) fe np n pr vw nv nc sz wt h) (hn : n = l.length) (hpm : ∀ p : Nat, p < np → pm (p : Int) = M 170 p) : ∀ p, p < np → lc (fe p + 1) ≤ M 170 p ∧ ∀ k, fe p < k → k < fe (p + 1) - 1 → (M 177 k = 2 → M 178 k < lc k) ∧ (M 177 k = 3 → M 178 k ≤ lc k) ∧ (lc (k + 1) ≤ if M 177 k = 3 ∧ M 178 k = lc k then lc k + 1 else lc k) ∧ (isR (M 177 k) ∨ isJ (M 177 k) → lc (tgM M k).toNat ≤ lc k) := fun p hp => by
  obtain ⟨q1, q2, q4, q5⟩ := B
  obtain ⟨S, hfe, T⟩ := T
  have hle := sg_mo S (p := p + 1) np (by omega) (Nat.le_refl _)
  obtain ⟨s1, s2, s3, s4⟩ := S.2 p hp
  obtain ⟨ml, mx, ⟨-, -, -, tq⟩, -⟩ := T p hp
  have nz : ∀ k, fe p < k → k < fe (p + 1) → opk l k ≠ 0 := fun k k1 k2 => by
    rw [← (hO k (by omega)).1]
    by_cases c : k = fe (p + 1) - 1
    · rw [c, s3.1]
      decide
    · have := (s4 k k1 (by omega)).1
      omega
  refine ⟨?_, fun k k1 k2 => ?_⟩
  · have z := q2 (fe p) (by omega) (nz (fe p + 1) (by omega) (by omega))
    have o0 : opk l (fe p) = 0 := by rw [← (hO (fe p) (by omega)).1]; exact s2.1
    have a0 : agk l (fe p) = (p : Int) := by rw [← (hO (fe p) (by omega)).2.1]; exact s2.2
    unfold nxl at z
    rw [o0, if_neg (fun w => absurd w.1 (by decide)), (q1 (fe p) (by omega)).2.2 o0, a0, hpm p hp] at z
    exact z
  · obtain ⟨h1, h2, h3⟩ := hO k (by omega)
    obtain ⟨x1, x2, -⟩ := q1 k (by omega)
    have z := q2 k (by omega) (nz (k + 1) (by omega) (by omega))
    unfold nxl at z
    rw [← h1] at x1 x2 z
    rw [← h2] at x1 x2 z
    refine ⟨x1, x2, z, fun w => ?_⟩
    obtain ⟨-, -, -, y4, y5⟩ := tq k k1 k2
    have hg : (fe p : Int) < tgM M k ∧ tgM M k < (fe (p + 1) : Int) := by
      rcases w with w | w
      · exact (y4 w).1
      · exact (y5 w).1
    rw [h3] at hg ⊢
    unfold lbl at hg ⊢
    by_cases c : lbk l k < 0 ∨ (lb.length : Int) ≤ lbk l k
    · rw [if_pos c] at hg
      omega
    · rw [if_neg c] at hg ⊢
      obtain ⟨a, b⟩ := q4 k (by omega) (lbk l k).toNat (by omega)
      obtain ⟨c1, d1⟩ := q5 (lbk l k).toNat a (lb.getD (lbk l k).toNat 0).toNat (by omega)
      omega
theorem A8 (hc : cd = 83 ∨ cd = 93) (J : Ju mc mr e) (h8 : mc 57 8 = 0) (hm5 : m5 = gE t (gv e V' mc)) (hP : PT (kd mc) (VF V') t 0 e) (fr : Fr (kd mc) (fun k => mc 55 k) V' 0 e) (K5 : Kt (gv e V' mc) (gT t (gv e V' mc))) (G5 : GJ (gT t (gv e V' mc)) e) (k85 : Kp (m85 cd m5) (r85 cd t m5).2.2.2) (T5 : TCs m5 (sT (fun i => mr 163 i.toNat) t s6)) (TTn : TT cd (fun i => mr 163 i.toNat) e (nd 40 0 xz xz) e (xTo cd t (cst cd m5)) (fiveC ++ cT (fun i => mr 163 i.toNat) t) (rT t) (vwT (fun i => mr 163 i.toNat) t) m' σ 3001 True) (hnf : (r85 cd t m5).1.2.2.2.1 = 3001) (hcf : (r85 cd t m5).1.2.2.2.2 = 3001) (hx : ¬ exC m5) (T : TyP (mLay p' m' 177) (mLay p' m' 178) (tgM (mLay p' m')) fe (rT t).length (r85 cd t m5).1.1.length (mLay p' m' 170) vw nv nc sz wt h) : (∀ k, k + 1 < (r85 cd t m5).1.1.length → mLay p' m' 177 k = 23 ∨ mLay p' m' 177 k = 24 → mLay p' m' 177 (k + 1) = 24 ∨ mLay p' m' 177 (k + 1) = 25) ∧ (∀ p, p < (rT t).length → mLay p' m' 174 p ≤ 80 ∧ ∀ c ∈ csM (mLay p' m') (p : Int), 1 ≤ c ∧ c ≤ 30) ∧ ∃ u : Nat → Int, ∀ p, p < (rT t).length → u (fe p + 1) ≤ mLay p' m' 170 p ∧ ∀ k, fe p < k → k < fe (p + 1) - 1 → (mLay p' m' 177 k = 2 → mLay p' m' 178 k < u k) ∧ (mLay p' m' 177 k = 3 → mLay p' m' 178 k ≤ u k) ∧ (u (k + 1) ≤ if mLay p' m' 177 k = 3 ∧ mLay p' m' 178 k = u k then u k + 1 else u k) ∧ (isR (mLay p' m' 177 k) ∨ isJ (mLay p' m' 177 k) → u (tgM (mLay p' m') k).toNat ≤ u k) := by
  obtain ⟨C, hcv, L5, hkd, V5, h54, h574, h515⟩ := A1 J h8 hm5 hP fr K5 G5 T5
  have hJ61 := J.2.2.2.2.2.2.1
  have he0 := J.1.1
  have he := J.2.2.2.2.2.2.2.2.2.1
  have er : r85 cd t m5 = xTo cd t (cst cd m5) := rfl
  have hK : ∀ a k, a < 83 → a ≠ 68 → (xTo cd t (cst cd m5)).2.2.2 a k = m5 a k := fun a k h1 h2 => by
    have z := k85.1 a k h1 h2
    rw [m85_o h2, er] at z
    exact z
  have nf : NF (xTo cd t (cst cd m5)).1 := by
    rw [er] at hnf hcf
    exact ⟨by omega, by omega⟩
  have h61 : ∀ k : Nat, (k : Int) < m5 57 4 → m5 61 k = -1 := fun k hk => by
    rw [h574] at hk
    have z : m5 61 k = mc 61 k := by
      rw [hm5]
      unfold gE
      rw [put_ss, if_neg (by decide)]
      exact K5.1 61 k (by omega)
    have w := hJ61 (k : Int) (Int.natCast_nonneg _) hk
    rw [Int.toNat_natCast] at w
    rw [z, w]
  obtain ⟨h25, fe2, PGf⟩ := A2 hc C ⟨he0, he⟩ hkd hP h61 TTn nf
  have hkd2 : kd (m85 cd m5) = kd mc := by rw [← hkd]; funext i; unfold kd; rw [m85_o (by decide), m85_o (by decide)]
  have hPm : PT (kd (cst cd m5).2.2.2) (VF V') t 0 e := by
    show PT (kd (m85 cd m5)) (VF V') t 0 e
    rw [hkd2]
    exact hP
  have hO := Or_fin (V := VF V') hc (c := cst cd m5) hPm he0 (by omega) rfl rfl TTn
  have x7 : m5 57 7 ≤ 40 := Int.not_lt.mp (fun w => hx (Or.inr (Or.inl w)))
  have x6 : m5 57 6 ≤ 30 := Int.not_lt.mp (fun w => hx (Or.inr (Or.inr (Or.inl w))))
  have h40 : (rT t).length ≤ 40 := by
    have := hcv.2.1.1
    omega
  rw [er] at T ⊢
  have hO2 : ∀ k, k < (xTo cd t (cst cd m5)).1.1.length → mLay p' m' 177 k = opk (xTo cd t (cst cd m5)).1.1 k ∧ mLay p' m' 178 k = agk (xTo cd t (cst cd m5)).1.1 k ∧ tgM (mLay p' m') k = lbl (xTo cd t (cst cd m5)).2.1.1 (lbk (xTo cd t (cst cd m5)).1.1 k) := fun k hk => by
    obtain ⟨b1, b2, b3⟩ := hO.2 k hk
    refine ⟨by rw [mL_o (by decide)]; exact b1, by rw [mL_o (by decide)]; exact b2, ?_⟩
    unfold tgM
    rw [mL_o (by decide), mL_o (by decide)]
    exact b3
  have hlen : (xTo cd t (cst cd m5)).1.1.length < 3000 := by
    have o41 := TTn.o41
    have := hO.1
    omega
  have A := AQ_To (cd := cd) (tsz t + 1) t (by omega) 0 (cst cd m5) hPm (Or.inr ⟨fun k hk => absurd hk (Nat.not_lt_zero _), fun k hk => absurd hk (Nat.succ_ne_zero _)⟩)
  have TL := TL_To (pm := fun q => (xTo cd t (cst cd m5)).2.2.2 (cd + 5) q.toNat) hc (by omega) (tsz t + 1) t (by omega) 0 (cst cd m5) hPm (Int.le_refl 0) (by show (0 : Int) ≤ 0; decide) (by show (0 : Int) + (e - 0) ≤ 100000; omega) (by rw [PGf.1]; omega) (fun q _ => rfl) ⟨fun _ => 0, fun _ => 0, Or.inr ⟨fun k hk => absurd hk (Nat.not_lt_zero _), fun k hk => absurd hk (Nat.not_lt_zero _), fun k hk => absurd hk (Nat.not_lt_zero _), fun k hk => absurd hk (Nat.not_lt_zero _)⟩, fun k hk => h61 k (by
    have z : (k : Int) < m85 cd m5 57 4 := hk
    rw [m85_o (by decide)] at z
    exact z), by show (0 : Nat) ≤ 3000; decide⟩
  obtain ⟨lc, gs, B, -, -⟩ := TL
  have B : BQ (fun q => (xTo cd t (cst cd m5)).2.2.2 (cd + 5) q.toNat) (xTo cd t (cst cd m5)).1.1 (xTo cd t (cst cd m5)).2.1.1 lc gs := B.resolve_left (by omega)
  refine ⟨fun k hk => ?_, fun p hp => ?_, lc, A8u B hO2 T rfl (fun p hp => ?_)⟩
  · rw [(hO2 k (by omega)).1, (hO2 (k + 1) hk).1]
    exact (A.resolve_left (by omega)).1 k hk
  · have hRk := RsK_To (V := VF V') (m0 := m85 cd m5) hc (XC0_m (fun a k _ h2 => m85_o h2) C) (tsz t + 1) t (by omega) 0 (cst cd m5) hPm (Int.le_refl 0) Kp_rf nf
    have hR5 : ∀ l ∈ rT t, RsK m5 e l := fun l hl => by
      have z := hRk l hl
      have k1 : kI (m85 cd m5) = kI m5 := by
        funext i
        unfold kI
        rw [m85_o (by decide), m85_o (by decide)]
      have k2 : idT (m85 cd m5) = idT m5 := by
        funext i
        unfold idT
        rw [m85_o (by decide), m85_o (by decide)]
      have k3 : kd (m85 cd m5) = kd m5 := by
        funext i
        unfold kd
        rw [m85_o (by decide), m85_o (by decide)]
      unfold RsK at z ⊢
      rw [k1, k2, k3] at z
      exact z
    obtain ⟨r1, r2, r3, r4⟩ := TTn.rr
    obtain ⟨ra, rb, rc⟩ := A5c (mr := mr) TTn hK rfl C hcv x6 hR5
    obtain ⟨a1, a2⟩ := r3 p hp
    have hm : (rT t).getD p [] ∈ rT t := by
      rw [List.getD_eq_getElem?_getD, List.getElem?_eq_getElem hp]
      exact List.getElem_mem hp
    have few31 : ((rT t).getD p []).length ≤ 31 := by
      have S := TTn.se
      have vv := TTn.vv
      have kI_e : kI (xTo cd t (cst cd m5)).2.2.2 = kI m5 := by
        funext i
        unfold kI
        rw [hK 57 4 (by decide) (by decide), hK 59 _ (by decide) (by decide)]
      have nm_e : nmI (xTo cd t (cst cd m5)).2.2.2 = nmI m5 := by
        funext i
        unfold nmI
        rw [hK 57 4 (by decide) (by decide), hK 60 _ (by decide) (by decide)]
      have id_e : idT (xTo cd t (cst cd m5)).2.2.2 = idT m5 := by
        funext i
        unfold idT
        rw [hK 51 5 (by decide) (by decide), hK 55 _ (by decide) (by decide)]
      have kd_e : kd (xTo cd t (cst cd m5)).2.2.2 = kd m5 := by
        funext i
        unfold kd
        rw [hK 51 5 (by decide) (by decide), hK 53 _ (by decide) (by decide)]
      have R2 : RsK (xTo cd t (cst cd m5)).2.2.2 e ((rT t).getD p []) := by
        unfold RsK
        rw [kI_e, id_e, kd_e]
        exact hR5 _ hm
      refine few (mr := mr) S (fun i => vv i) R2 (fun x hx => ?_)
      obtain ⟨u1, u2, u3⟩ := (hR5 _ hm).1 x hx
      have n := (C.1 (idT m5 x)).2.2.1 u3
      rw [nm_e, id_e]
      exact ⟨by omega, by omega⟩
    obtain ⟨⟨q1, q2⟩, ⟨q3, q4⟩, q5, q6⟩ := ra p hp
    refine ⟨by rw [mL_o (by decide), a2]; omega, fun c hcc => ?_⟩
    unfold csM at hcc
    rw [Int.toNat_natCast, mL_o (by decide), mL_o (by decide), rcM_mem _ _ q3] at hcc
    obtain ⟨k, k1, k2⟩ := hcc
    rw [mL_o (by decide)] at k2
    have kk : m' 173 p + (k : Int) < m' 158 36 := by omega
    have z := (rb (m' 173 p + (k : Int)).toNat (by omega)).1
    have hk2 : (m' 173 p + (k : Int)).toNat < (rT t).flatten.length := by
      have := hcv.2.2.1.1
      omega
    obtain ⟨l, hl, hx2⟩ := fl_mem hk2
    obtain ⟨u1, u2, u3⟩ := (hR5 l hl).1 _ hx2
    have n := (C.1 _).2.2.1 u3
    rw [hcv.2.2.2.2 _ hk2] at z
    rw [k2, ← z]
    omega
  · show (xTo cd t (cst cd m5)).2.2.2 (cd + 5) p = mLay p' m' 170 p
    obtain ⟨-, -, z⟩ := TTn.kp p (by rw [h25]; omega)
    rw [mL_o (by decide)]
    exact (z (by omega)).1
end Gd8
