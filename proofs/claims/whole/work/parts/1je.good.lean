/-! A GOOD TEXT, LAID: class and model hold the same program -/
/-- the class's code object against what the model has now -/
def CRq (cd : Nat) (c Z : Mem) : Prop := (c cd 0 = Z 158 55 ∧ c cd 5 = Z 158 60 ∧ c cd 10 = Z 158 61 ∧ c cd 11 = Z 158 70 ∧ c cd 12 = Z 158 68) ∧ (∀ i : Nat, (i : Int) < Z 158 55 → c (cd + 1) i = Z 184 i ∧ c (cd + 2) i = Z 185 i ∧ c (cd + 3) i = Z 186 i ∧ c (cd + 4) i = Z 187 i) ∧ (∀ p : Nat, (p : Int) < Z 158 60 → c (cd + 5) p = Z 188 p ∧ c (cd + 6) p = Z 189 p ∧ c (cd + 7) p = Z 190 p ∧ c (cd + 8) p = Z 191 p) ∧ (∀ k : Nat, (k : Int) < Z 158 68 → c (cd + 9) k = Z 193 k)
/-- a program is kept -/
def GX (Z : Mem) : Prop := Z 158 54 = 1 ∧ (0 ≤ Z 158 55 ∧ Z 158 55 ≤ 3000) ∧ (0 ≤ Z 158 60 ∧ Z 158 60 ≤ 40) ∧ ∀ k : Nat, (k : Int) < Z 158 68 → 0 ≤ Z 193 k ∧ Z 193 k < 65536
section G68
variable {mc mr m' m5 : Mem} {e : Int} {cd : Nat} {t : xT} {V' : Nat → Int} {σ : Int → Int}
/-- how many procs were made -/
theorem c68 (hc : cd = 83 ∨ cd = 93) (J : Ju mc mr e) (h8 : mc 57 8 = 0) (hm5 : m5 = gE t (gv e V' mc)) (hP : PT (kd mc) (VF V') t 0 e) (fr : Fr (kd mc) (fun k => mc 55 k) V' 0 e) (K5 : Kt (gv e V' mc) (gT t (gv e V' mc))) (G5 : GJ (gT t (gv e V' mc)) e) (k85 : Kp (m85 cd m5) (r85 cd t m5).2.2.2) (T5 : TCs m5 (sT (fun i => mr 163 i.toNat) t s6)) (TTn : TT cd (fun i => mr 163 i.toNat) e (nd 40 0 xz xz) e (xTo cd t (cst cd m5)) (fiveC ++ cT (fun i => mr 163 i.toNat) t) (rT t) (vwT (fun i => mr 163 i.toNat) t) m' σ 3001 True) (hnf : (r85 cd t m5).1.2.2.2.1 = 3001) (hcf : (r85 cd t m5).1.2.2.2.2 = 3001) : (r85 cd t m5).2.2.2 68 4 = ((rT t).length : Int) := by
  obtain ⟨C, hcv, L5, hkd, V5, h54, h574, h515⟩ := A1 J h8 hm5 hP fr K5 G5 T5
  have hJ61 := J.2.2.2.2.2.2.1
  have he0 := J.1.1
  have he := J.2.2.2.2.2.2.2.2.2.1
  have er : r85 cd t m5 = xTo cd t (cst cd m5) := rfl
  have nf : NF (xTo cd t (cst cd m5)).1 := by
    rw [er] at hnf hcf
    exact ⟨by omega, by omega⟩
  have h61 : ∀ k : Nat, (k : Int) < m5 57 4 → m5 61 k = -1 := fun k hk => by
    rw [h574] at hk
    have z : m5 61 k = mc 61 k := by
      rw [hm5]
      unfold gE
      rw [put_ss, if_neg (by decide)]
      exact K5.1 61 k (by omega)
    have w := hJ61 (k : Int) (Int.natCast_nonneg _) hk
    rw [Int.toNat_natCast] at w
    rw [z, w]
  obtain ⟨h25, fe2, PGf⟩ := A2 hc C ⟨he0, he⟩ hkd hP h61 TTn nf
  rw [er]
  exact PGf.1
end G68
section Gdl
variable {F L D : Nat} {xs : Nat → Int32} {mc mr j' m' m5 : Mem} {e p' mn : Int} {cd : Nat} {t : xT} {V' : Nat → Int} {σ : Int → Int}
theorem GD1 (hF : 100000 ≤ F) (hc : cd = 83 ∨ cd = 93) (J : Ju mc mr e) (h8 : mc 57 8 = 0) (hn4 : 0 ≤ mc 57 4 ∧ mc 57 4 < 1510) (hm5 : m5 = gE t (gv e V' mc)) (hP : PT (kd mc) (VF V') t 0 e) (fr : Fr (kd mc) (fun k => mc 55 k) V' 0 e) (K5 : Kt (gv e V' mc) (gT t (gv e V' mc))) (G5 : GJ (gT t (gv e V' mc)) e) (k85 : Kp (m85 cd m5) (r85 cd t m5).2.2.2) (T5 : TCs m5 (sT (fun i => mr 163 i.toNat) t s6)) (S5 : TS j' (sT (fun i => mr 163 i.toNat) t s6)) (TTn : TT cd (fun i => mr 163 i.toNat) e (nd 40 0 xz xz) e (xTo cd t (cst cd m5)) (fiveC ++ cT (fun i => mr 163 i.toNat) t) (rT t) (vwT (fun i => mr 163 i.toNat) t) m' σ 3001 True) (E7n : E7 (mI2 (m2M j' mr e)) m' (kT t)) (hnf : (r85 cd t m5).1.2.2.2.1 = 3001) (hcf : (r85 cd t m5).1.2.2.2.2 = 3001) (hx : ¬ exC m5) (h15 : (r85 cd t m5).2.2.2 68 15 = 0) (hPA : ∀ k, -1000000 ≤ (r85 cd t m5).2.2.2 (cd + 5) k ∧ (r85 cd t m5).2.2.2 (cd + 5) k ≤ 1000000) (hmn : mnC (c6M cd t e m5) = mn) (hmn1 : mn ≠ -1) (hxm : ¬ exM (rv p' 0 m')) (hm0 : m' 170 mn.toNat = 0) (hB : LyB (c6M cd t e m5) cd) (hB0 : MyB (rv p' 0 m')) : ∃ (S2 : lS) (Q2 : Nat → Int) (i6 p7 w4 sz2 : Int) (Tm : mSt) (Qm W : Nat → Int) (v : Nat) (n : Nat), TB2 S2 Q2 i6 p7 w4 sz2 ∧ MyB (yEnd Tm Qm (rv p' 0 m') (mLay p' m') (mLay p' m' 182 mn.toNat) n v) ∧ Cx F (D + 31) 36 [71, (cd : Int)] (Hp L xs (c6M cd t e m5)) = some ([if 6000 < yEnd Tm Qm (rv p' 0 m') (mLay p' m') (mLay p' m' 182 mn.toNat) n v 158 74 + yEnd Tm Qm (rv p' 0 m') (mLay p' m') (mLay p' m' 182 mn.toNat) n v 158 75 then 0 else 1], Hp L xs (lyS S2 cd (qv cd Q2 i6 p7 (uv cd w4 sz2 (put (c6M cd t e m5) 71 1 (cd : Int)))))) ∧ Cx F (D + 30) 289 [158, mn] (Hp L xs (rv p' 0 m')) = some ([], Hp L xs (cv W (yEnd Tm Qm (rv p' 0 m') (mLay p' m') (mLay p' m' 182 mn.toNat) n v))) ∧ (0 ≤ yEnd Tm Qm (rv p' 0 m') (mLay p' m') (mLay p' m' 182 mn.toNat) n v 158 74 ∧ yEnd Tm Qm (rv p' 0 m') (mLay p' m') (mLay p' m' 182 mn.toNat) n v 158 74 ≤ 100000) ∧ (0 ≤ yEnd Tm Qm (rv p' 0 m') (mLay p' m') (mLay p' m' 182 mn.toNat) n v 158 75 ∧ yEnd Tm Qm (rv p' 0 m') (mLay p' m') (mLay p' m' 182 mn.toNat) n v 158 75 ≤ 100000) ∧ (¬ 6000 < yEnd Tm Qm (rv p' 0 m') (mLay p' m') (mLay p' m' 182 mn.toNat) n v 158 74 + yEnd Tm Qm (rv p' 0 m') (mLay p' m') (mLay p' m' 182 mn.toNat) n v 158 75 → Cx F (D + 31) 256 [158, mn] (Hp L xs (cv W (yEnd Tm Qm (rv p' 0 m') (mLay p' m') (mLay p' m' 182 mn.toNat) n v))) = some ([], Hp L xs (kMM (cv W (yEnd Tm Qm (rv p' 0 m') (mLay p' m') (mLay p' m' 182 mn.toNat) n v)) mn)) ∧ (∃ np fe h u nc cs, PRQ (kMM (cv W (yEnd Tm Qm (rv p' 0 m') (mLay p' m') (mLay p' m' 182 mn.toNat) n v)) mn) np n fe h u nc cs) ∧ CRq cd (lyS S2 cd (qv cd Q2 i6 p7 (uv cd w4 sz2 (put (c6M cd t e m5) 71 1 (cd : Int))))) (kMM (cv W (yEnd Tm Qm (rv p' 0 m') (mLay p' m') (mLay p' m' 182 mn.toNat) n v)) mn) ∧ GX (kMM (cv W (yEnd Tm Qm (rv p' 0 m') (mLay p' m') (mLay p' m' 182 mn.toNat) n v)) mn)) := by
  obtain ⟨fe, T, Dm, x6, X⟩ := A5 (p' := p') hc J h8 hn4 hm5 hP fr K5 G5 k85 T5 S5 TTn E7n hnf hcf hx h15 hPA hmn hmn1
  obtain ⟨hAJ, hrs, u, hU⟩ := A8 (p' := p') hc J h8 hm5 hP fr K5 G5 k85 T5 TTn hnf hcf hx T
  have X' := X
  have Dm' := Dm
  obtain ⟨S2, Q2, i6, p7, w4, sz2, Tm, Qm, W, t1, mB, c36, c289, hb, y1, y2, y3, t3, hch, KM, ⟨C, hC⟩, hW, hNt⟩ := A6x (F := F) (L := L) (d := D + 15) (d2 := D) (xs := xs) (m := c6M cd t e m5) (m0 := rv p' 0 m') hF T Dm x6 (fun p _ => rfl) (fun p _ => rfl) X rfl hB hB0
  obtain ⟨d41, d25, d21, dnp, dn, dnv, d168, d179, dR, d36, d175, d83, d84⟩ := Dm'
  obtain ⟨-, ⟨-, xn0⟩, xo, ⟨x5, x7, x14, x4, x8⟩, xv, xp, -, xr, xc, xn, xf, xm, xmn⟩ := X'
  generalize hM : mLay p' m' = M at *
  generalize hn : (r85 cd t m5).1.1.length = n at *
  generalize hnp : (rT t).length = np at *
  generalize hnv : ((vwT (fun i => mr 163 i.toNat) t).length : Int) = nv at *
  refine ⟨S2, Q2, i6, p7, w4, sz2, Tm, Qm, W, nv.toNat, n, t1, mB, c36, c289, y1, y2, fun hfit => ?_⟩
  obtain ⟨u1, u2, u3⟩ := t3 hfit
  generalize he0 : M 182 mn.toNat = e0 at *
  generalize hE : eEnd (rv p' 0 m') M e0 n = E at *
  have hM0 : ∀ a k, a ≠ 158 → M a k = m' a k := fun a k ha => by rw [← hM]; exact mL_o ha
  have o41 : M 158 41 = (n : Int) := d41
  have y180 : ∀ i, i < n → yEnd Tm Qm (rv p' 0 m') M e0 n nv.toNat 180 i = 82 + ((mlI (fv E M) 0 i).length : Int) := fun i hi => by
    show plq 82 (fv (eEnd (rv p' 0 m') M e0 n) M) 0 Qm n i = _
    unfold plq
    rw [if_pos hi, hE]
  have y74 : yEnd Tm Qm (rv p' 0 m') M e0 n nv.toNat 158 74 = 82 + ((mlI (fv E M) 0 n).length : Int) := by
    have z := (mI_n (itA M (eEnd (rv p' 0 m') M e0 n) e0 n) (rs Tm)).1
    have z2 : (rs Tm).1 = 0 := rfl
    rw [z2, Int.zero_add] at z
    have hl : ((itA M (eEnd (rv p' 0 m') M e0 n) e0 n).length : Int) = 82 + ((mlI (fv E M) 0 n).length : Int) := by
      unfold itA
      rw [List.length_append, hdI_l, hE]
      omega
    rw [← hl]
    exact z
  have y75 : yEnd Tm Qm (rv p' 0 m') M e0 n nv.toNat 158 75 = vsm M nv.toNat := rfl
  have y169 : ∀ k : Nat, (k : Int) < nv → yEnd Tm Qm (rv p' 0 m') M e0 n nv.toNat 169 k = 82 + ((mlI (fv E M) 0 n).length : Int) + vsm M k := fun k hk => by
    show vfn (lyd Tm Qm M (eEnd (rv p' 0 m') M e0 n) e0 n) (lyd Tm Qm M (eEnd (rv p' 0 m') M e0 n) e0 n 169) nv.toNat k = _
    unfold vfn
    have z74 : lyd Tm Qm M (eEnd (rv p' 0 m') M e0 n) e0 n 158 74 = 82 + ((mlI (fv E M) 0 n).length : Int) := y74
    rw [if_pos (by omega), z74, vs_ly]
  have yo : ∀ a k, (a = 177 ∨ a = 178 ∨ a = 179 ∨ a = 181 ∨ a = 170 ∨ a = 171 ∨ a = 182 ∨ a = 183 ∨ a = 173 ∨ a = 174 ∨ a = 175 ∨ a = 168) → cv W (yEnd Tm Qm (rv p' 0 m') M e0 n nv.toNat) a k = M a k := fun a k ha => by
    rcases ha with rfl | rfl | rfl | rfl | rfl | rfl | rfl | rfl | rfl | rfl | rfl | rfl <;> rfl
  have yf : cv W (yEnd Tm Qm (rv p' 0 m') M e0 n nv.toNat) 158 41 = (n : Int) ∧ cv W (yEnd Tm Qm (rv p' 0 m') M e0 n nv.toNat) 158 25 = (np : Int) ∧ cv W (yEnd Tm Qm (rv p' 0 m') M e0 n nv.toNat) 158 21 = nv ∧ cv W (yEnd Tm Qm (rv p' 0 m') M e0 n nv.toNat) 158 24 = m' 158 24 := by
    refine ⟨d41, d25, d21, ?_⟩
    show M 158 24 = _
    rw [← hM]
    rfl
  have y195 : ∀ k, cv W (yEnd Tm Qm (rv p' 0 m') M e0 n nv.toNat) 195 k = W k := fun k => rfl
  have ycv : ∀ a k, a ≠ 195 → cv W (yEnd Tm Qm (rv p' 0 m') M e0 n nv.toNat) a k = yEnd Tm Qm (rv p' 0 m') M e0 n nv.toNat a k := fun a k ha => if_neg ha
  generalize hY : yEnd Tm Qm (rv p' 0 m') M e0 n nv.toNat = Y at *
  have c180 : ∀ i, i < n → cv W Y 180 i = 82 + ((mlI (fv E M) 0 i).length : Int) := fun i hi => by rw [ycv 180 i (by decide)]; exact y180 i hi
  have c74 : cv W Y 158 74 = 82 + ((mlI (fv E M) 0 n).length : Int) := by rw [ycv 158 74 (by decide)]; exact y74
  have c75 : cv W Y 158 75 = vsm M nv.toNat := by rw [ycv 158 75 (by decide)]; exact y75
  obtain ⟨f41, f25, f21, f24⟩ := yf
  have K := kMM_c (Y := cv W Y) (mn := mn) (by omega) (by omega) (by omega) (by omega)
  -- numbers of conditions
  have n5 := sT_n (v := fun i => mr 163 i.toNat) (tsz t + 1) t (by omega) 0 s6 hP
  have e24 : m' 158 24 = 6 + kT t := E7n.2.1
  have e576 : m5 57 6 + 1 = 6 + kT t := by
    have := T5.2.2.1
    rw [n5.2.1] at this
    exact this
  have g6 : 0 ≤ m5 57 6 := by
    have z : m5 57 6 = gT t (gv e V' mc) 57 6 := by
      rw [hm5]
      unfold gE
      rw [put_ss, if_neg (by decide)]
    rw [z]
    exact G5.2.2.1
  have hpz : ∀ p, p < np → szM M p = M 170 p + 2 + M 171 p ∧ wtM M p = w32 (2 + M 171 p + M 183 p + 3) ∧ M 170 p ≤ 8 := fun p hp => by
    obtain ⟨ml, mx, ⟨q1, -⟩, q5, q6, q7⟩ := T.2.2 p hp
    have q5 : M 170 p + 2 + M 171 p = ml + 2 := q5
    refine ⟨?_, ?_, ?_⟩
    · unfold szM
      rw [w32_l]
      exact w32_of (by omega) (by omega)
    · unfold wtM
      rw [w32_l, show w32 (2 + M 171 p) + M 183 p + 3 = w32 (2 + M 171 p) + (M 183 p + 3) by omega, w32_l, show 2 + M 171 p + (M 183 p + 3) = 2 + M 171 p + M 183 p + 3 by omega]
    · refine Int.not_lt.mp (fun w => hxm (Or.inr (Or.inr (Or.inr (Or.inr ⟨(p : Int), by omega, ?_, Or.inl ?_⟩)))))
      · show (p : Int) < m' 158 25
        have z : M 158 25 = m' 158 25 := by rw [← hM]; rfl
        omega
      · rw [Int.toNat_natCast]
        show 8 < m' 170 p
        rw [← hM0 170 p (by decide)]
        exact w
  have Rb : ∀ p : Nat, (p : Int) < cv W Y 158 25 → 0 ≤ cv W Y 173 p ∧ 0 ≤ cv W Y 174 p ∧ cv W Y 173 p + cv W Y 174 p ≤ 1600 ∧ ∀ k : Nat, (k : Int) < cv W Y 174 p → 0 ≤ cv W Y 175 (cv W Y 173 p + k).toNat ∧ cv W Y 175 (cv W Y 173 p + k).toNat < 40 := fun p hp => by
    rw [yo 173 p (by omega), yo 174 p (by omega)]
    obtain ⟨⟨a1, a2⟩, a3, a4⟩ := dR p (by omega)
    refine ⟨a1, a3, by omega, fun k hk => ?_⟩
    rw [yo 175 _ (by omega)]
    have z := (hrs p (by omega)).2 (M 175 (M 173 p + (k : Int)).toNat) (by
      unfold csM
      rw [Int.toNat_natCast, rcM_mem _ _ a1]
      exact ⟨k, by omega, rfl⟩)
    omega
  have M256 := M_256 (F := F) (L := L) (xs := xs) (d := D + 29) (m := cv W Y) (main := mn) hF (by omega) (fun k hk => by rw [yo 179 k (by omega)]; exact d179 k (by omega)) (by omega) Rb (by omega) (by omega) (by omega)
  have ZZ : ZC M (kMM (cv W Y) mn) np n nv mn E W := by
    obtain ⟨k1, k2, ⟨k67, k68, k70, k71⟩, k193, k194, -⟩ := K
    refine ⟨fun i hi => ?_, fun p hp => ?_, ⟨k67, by rw [k68]; exact c74, by rw [k70]; exact c75, by rw [k71]; exact f21⟩, fun k hk => ?_, fun k hk => ?_⟩
    · obtain ⟨q1, q2, q3, q4⟩ := k1 i (by omega)
      refine ⟨by rw [q1]; exact yo 177 i (by omega), by rw [q2]; exact yo 178 i (by omega), ?_, by rw [q4]; exact c180 i hi⟩
      rw [q3]
      unfold tgM
      rw [yo 179 i (by omega), yo 181 _ (by omega)]
    · obtain ⟨q1, q2, q3, q4, q5⟩ := k2 p (by omega)
      refine ⟨by rw [q1]; exact yo 170 p (by omega), ?_, ?_, by rw [q4]; exact yo 182 p (by omega), fun c hcc => ?_⟩
      · rw [q2]
        unfold szM
        rw [yo 170 p (by omega), yo 171 p (by omega)]
      · rw [q3]
        unfold wtM
        rw [yo 171 p (by omega), yo 183 p (by omega)]
      · rw [q5 c hcc]
        have e : rsB (cv W Y) p c = rsB M p c := by
          unfold rsB
          rw [yo 174 p (by omega), yo 173 p (by omega)]
          congr 1
          funext j
          rw [yo 175 _ (by omega)]
        rw [e]
    · rw [k68] at hk
      rw [k193 k hk]
      exact y195 k
    · rw [k194 k (by omega)]
      exact yo 168 k (by omega)
  refine ⟨M256, ⟨np, fe, _, u, _, _, PRQ_mk (Y := Y) (C := C) T Dm x6 (by rw [he0]; exact KM) hb (fun p hp => (xp p hp).2.2.2.2) hpz ⟨xmn, by rw [hM0 170 _ (by decide)]; exact hm0⟩ hrs hAJ hU (by rw [he0]; exact hch) (by rw [he0]; exact hNt) (by rw [he0]; exact hC) (by rw [he0]; exact hW) ⟨y180, y74, y75, y169⟩ ZZ ?_⟩, ?_, ?_⟩
  · obtain ⟨-, -, ⟨-, k68, k70, -⟩, -⟩ := K
    rw [k68, k70, c74, c75, ← y74, ← y75]
    omega
  · obtain ⟨k1, k2, ⟨k67, k68, k70, k71⟩, k193, k194, ⟨k54, k55, k60, k61⟩⟩ := K
    have lo : ∀ a k, a ≠ 71 → a ≠ 72 → a ≠ cd + 9 → a ≠ cd + 4 → (a = cd → k ≠ 12) → lyS S2 cd (qv cd Q2 i6 p7 (uv cd w4 sz2 (put (c6M cd t e m5) 71 1 (cd : Int)))) a k = c6M cd t e m5 a k := fun a k h1 h2 h3 h4 h5 => by
      unfold lyS ly
      rw [if_neg h1, if_neg h2, if_neg h3]
      unfold qv
      rw [if_neg h1, if_neg h4]
      unfold uv
      rw [if_neg h1]
      by_cases q : a = cd
      · rw [if_pos q, if_neg (h5 q), put_ss, if_neg h1]
      · rw [if_neg q, put_ss, if_neg h1]
    have hcd0 : ∀ k, k = 5 ∨ k = 10 ∨ k = 11 → c6M cd t e m5 cd k = e85 cd t m5 cd k := fun k hk => by
      rcases hc with rfl | rfl <;> rcases hk with rfl | rfl | rfl <;> rfl
    have e5 : e85 cd t m5 cd 5 = (np : Int) := by
      have z4 : (r85 cd t m5).2.2.2 68 4 = (np : Int) := by
        have z := c68 hc J h8 hm5 hP fr K5 G5 k85 T5 TTn hnf hcf
        rw [hnp] at z
        exact z
      have z : e85 cd t m5 cd 5 = imin ((r85 cd t m5).2.2.2 68 4) 40 := by
        rcases hc with rfl | rfl <;> rfl
      rw [z, z4]
      unfold imin
      split <;> omega
    have e10 : e85 cd t m5 cd 10 = m5 57 6 := by
      rcases hc with rfl | rfl <;> rfl
    have e11 : e85 cd t m5 cd 11 = m5 57 8 := by
      rcases hc with rfl | rfl <;> rfl
    have l12 : lyS S2 cd (qv cd Q2 i6 p7 (uv cd w4 sz2 (put (c6M cd t e m5) 71 1 (cd : Int)))) cd 12 = sz2 := by
      rcases hc with rfl | rfl <;> rfl
    have l4 : ∀ i, lyS S2 cd (qv cd Q2 i6 p7 (uv cd w4 sz2 (put (c6M cd t e m5) 71 1 (cd : Int)))) (cd + 4) i = Q2 i := fun i => by
      rcases hc with rfl | rfl <;> rfl
    have l9 : ∀ i, lyS S2 cd (qv cd Q2 i6 p7 (uv cd w4 sz2 (put (c6M cd t e m5) 71 1 (cd : Int)))) (cd + 9) i = S2.2.2.2.2 i := fun i => by
      rcases hc with rfl | rfl <;> rfl
    have xo' : ∀ i, i < n → c6M cd t e m5 (cd + 1) i = M 177 i ∧ c6M cd t e m5 (cd + 2) i = M 178 i ∧ c6M cd t e m5 (cd + 3) i = tgM M i := fun i hi => by
      have z := xo i hi
      rw [put_ss, if_neg (by omega), put_ss, if_neg (by omega), put_ss, if_neg (by omega)] at z
      exact z
    have xp' : ∀ p, p < np → c6M cd t e m5 (cd + 5) p = M 170 p ∧ c6M cd t e m5 (cd + 6) p = M 170 p + 2 + M 171 p ∧ c6M cd t e m5 (cd + 7) p = w32 (2 + M 171 p + M 183 p + 3) ∧ c6M cd t e m5 (cd + 8) p = (fe p : Int) ∧ M 182 p = (fe p : Int) := fun p hp => by
      have z := xp p hp
      rw [put_ss, if_neg (by omega), put_ss, if_neg (by omega), put_ss, if_neg (by omega), put_ss, if_neg (by omega)] at z
      exact z
    have c578 : c6M cd t e m5 57 8 = m5 57 8 := c6_o hc k85 (by decide) (by decide)
    refine ⟨⟨?_, ?_, ?_, ?_, ?_⟩, fun i hi => ?_, fun p hp => ?_, fun k hk => ?_⟩
    · rw [lo cd 0 (by omega) (by omega) (by omega) (by omega) (fun _ => by decide), k55, f41, c6_0 hc, hn]
    · rw [lo cd 5 (by omega) (by omega) (by omega) (by omega) (fun _ => by decide), hcd0 5 (by omega), e5, k60, f25]
    · rw [lo cd 10 (by omega) (by omega) (by omega) (by omega) (fun _ => by decide), hcd0 10 (by omega), e10, k61, f24]
      omega
    · rw [lo cd 11 (by omega) (by omega) (by omega) (by omega) (fun _ => by decide), hcd0 11 (by omega), e11, k70, c75, ← c578, y3, y75]
    · rw [l12, k68, c74, u1, y74]
    · rw [k55, f41] at hi
      have hi2 : i < n := by omega
      obtain ⟨q1, q2, q3, q4⟩ := k1 i (by omega)
      obtain ⟨g1, g2, g3⟩ := xo' i hi2
      rw [lo (cd + 1) i (by omega) (by omega) (by omega) (by omega) (fun w => by omega), lo (cd + 2) i (by omega) (by omega) (by omega) (by omega) (fun w => by omega), lo (cd + 3) i (by omega) (by omega) (by omega) (by omega) (fun w => by omega), l4, q1, q2, q3, q4, g1, g2, g3, yo 177 i (by omega), yo 178 i (by omega), c180 i hi2, u2 i hi2, y180 i hi2]
      refine ⟨rfl, rfl, ?_, rfl⟩
      unfold tgM
      rw [yo 179 i (by omega), yo 181 _ (by omega)]
    · rw [k60, f25] at hp
      have hp2 : p < np := by omega
      obtain ⟨q1, q2, q3, q4, -⟩ := k2 p (by omega)
      obtain ⟨g1, g2, g3, g4, g5⟩ := xp' p hp2
      obtain ⟨a1, a2, -⟩ := hpz p hp2
      rw [lo (cd + 5) p (by omega) (by omega) (by omega) (by omega) (fun w => by omega), lo (cd + 6) p (by omega) (by omega) (by omega) (by omega) (fun w => by omega), lo (cd + 7) p (by omega) (by omega) (by omega) (by omega) (fun w => by omega), lo (cd + 8) p (by omega) (by omega) (by omega) (by omega) (fun w => by omega), q1, q2, q3, q4, g1, g2, g3, g4, yo 170 p (by omega), yo 182 p (by omega), g5]
      refine ⟨rfl, ?_, ?_, rfl⟩
      · unfold szM
        rw [yo 170 p (by omega), yo 171 p (by omega)]
        exact a1.symm
      · unfold wtM
        rw [yo 171 p (by omega), yo 183 p (by omega)]
        exact a2.symm
    · rw [k68, c74] at hk
      rw [l9, k193 k (by omega), y195]
      exact u3 k (by omega)
  · obtain ⟨-, -, ⟨-, k68, -, -⟩, k193, -, ⟨k54, k55, k60, -⟩⟩ := K
    have hlA : ((itA M E e0 n).length : Int) = 82 + ((mlI (fv E M) 0 n).length : Int) := by
      unfold itA
      rw [List.length_append, hdI_l]
      omega
    unfold GX
    rw [k54, k55, k60, k68, f41, f25]
    refine ⟨rfl, by omega, by omega, fun k hk => ?_⟩
    rw [k193 k hk, y195 k]
    exact WdOk_r _ 0 (Int.le_refl 0) (IR_A KM.1) hW k (Int.natCast_nonneg k) (by rw [Int.zero_add, hlA, ← c74]; exact hk)
end Gdl
