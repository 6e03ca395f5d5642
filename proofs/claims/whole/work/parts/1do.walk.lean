/-! COMPILE: judged, gathered, made; the model's two walks beside it -/
section Wk
variable {F L d : Nat} {xs : Nat → Int32} {mc mr : Mem} {e : Int} {cd : Nat}
theorem gv_id (m : Mem) : gv (m 67 1) (fun k => m 55 k) m = m := by
  funext a k
  unfold gv
  by_cases h1 : a = 67
  · rw [if_pos h1]
    by_cases h2 : k = 1
    · rw [if_pos h2, h1, h2]
    · rw [if_neg h2]
  · rw [if_neg h1]
    by_cases h2 : a = 55
    · rw [if_pos h2, h2]
    · rw [if_neg h2]
theorem TCs_gv {p : Int} {V : Nat → Int} {s : tS6} (T : TCs mc s) : TCs (gv p V mc) s := T
/-- gather leaves all cells but its own -/
theorem gC_f {m : Mem} {i : Int} {a j : Nat} (ha : a < 57 ∨ 66 < a) : gC m i a j = m a j := by
  unfold gC
  rw [tel_ro a j (by omega) (by omega) (by omega), put_ss, if_neg (by omega)]
theorem gR_f {m : Mem} {i : Int} {a j : Nat} (ha : a < 57 ∨ 66 < a) : gR m i a j = m a j := by
  unfold gR
  rw [put_ss, if_neg (by omega), put_ss, if_neg (by omega)]
theorem gN_f {K : Int → Int} {a j : Nat} (ha : a < 57 ∨ 66 < a) : ∀ (k : Nat) (t : xT), tsz t < k → ∀ (m : Mem) (x r : Int), PN K t x r → gN t m a j = m a j := by
  intro k
  induction k with
  | zero => intro t ht; exact absurd ht (Nat.not_lt_zero _)
  | succ k ih =>
    intro t ht m x r h
    rcases inv_N h with ⟨a1, b, rfl, g1, g2, g3⟩ | ⟨a1, b, rfl, g1, g2, g3⟩
    · exact gC_f (i := x) ha
    · rw [tsz_nd] at ht
      exact (ih b (by omega) (gC m x) (x + 2) r g3).trans (gC_f ha)
theorem gRs_f {K : Int → Int} {a j : Nat} (ha : a < 57 ∨ 66 < a) : ∀ (k : Nat) (t : xT), tsz t < k → ∀ (m : Mem) (x r : Int), PN K t x r → gRs t m a j = m a j := by
  intro k
  induction k with
  | zero => intro t ht; exact absurd ht (Nat.not_lt_zero _)
  | succ k ih =>
    intro t ht m x r h
    rcases inv_N h with ⟨a1, b, rfl, g1, g2, g3⟩ | ⟨a1, b, rfl, g1, g2, g3⟩
    · exact gR_f (i := x) ha
    · rw [tsz_nd] at ht
      exact (ih b (by omega) (gR m x) (x + 2) r g3).trans (gR_f ha)
theorem gT_f {K V : Int → Int} {e : Int} {a j : Nat} (ha : a < 57 ∨ 66 < a) : ∀ (k : Nat) (t : xT), tsz t < k → ∀ (m : Mem) (p : Int), PT K V t p e → gT t m a j = m a j := by
  intro k
  induction k with
  | zero => intro t ht; exact absurd ht (Nat.not_lt_zero _)
  | succ k ih =>
    intro t ht m p h
    rcases inv_T h with ⟨i, a1, b, rfl, g1, g2⟩ | ⟨a1, b, rfl, g1, g2, g3, g4⟩ | ⟨a1, b, rfl, g1, g2, g3, g4, g5, g6, g7⟩ | ⟨a1, b, rfl, g1, r, g2, g3, g4⟩ | ⟨a1, b, rfl, g1, g2, g3, r, g4, g5⟩
    · rfl
    · rw [tsz_nd] at ht
      refine (ih b (by omega) (gV m (p + 1) 1 1) _ g4).trans ?_
      rw [gV_ro a j (by omega) (by omega) (by omega), tel_ro a j (by omega) (by omega) (by omega), bgL_ro a j (by omega)]
    · rw [tsz_nd] at ht
      refine (ih b (by omega) (gV m (p + 1) 2 (idT m (p + 3))) _ g7).trans ?_
      rw [gV_ro a j (by omega) (by omega) (by omega), tel_ro a j (by omega) (by omega) (by omega), bgL_ro a j (by omega)]
    · rw [tsz_nd] at ht
      exact (ih b (by omega) (gN a1 m) _ g4).trans (gN_f ha (tsz a1 + 1) a1 (by omega) m _ _ g2)
    · rw [tsz_nd] at ht
      refine (ih b (by omega) (gRq a1 (gH m (p + 1) (hN a1))) _ g5).trans ?_
      have e1 : gRq a1 (gH m (p + 1) (hN a1)) a j = gH m (p + 1) (hN a1) a j := by
        obtain ⟨i, a2, i2, b2, c2, rfl, r2, s2, x1, x2, x3, x4⟩ := inv_H g4
        rcases x3 with ⟨rfl, _, _⟩ | ⟨rfl, _, x3⟩
        · rfl
        · exact gRs_f ha (tsz b2 + 1) b2 (by omega) _ _ _ x3
      rw [e1, gH_ro a j (by omega) (by omega) (by omega), tel_ro a j (by omega) (by omega) (by omega)]
/-- what both have before they judge -/
def Ju (mc mr : Mem) (e : Int) : Prop := TK mc mr e ∧ VC mc (fun i => mr 163 i.toNat) e ∧ IJ mc ∧ TCs mc s6 ∧ GJ mc 0 ∧ mc 57 15 = 3001 ∧ (∀ id : Int, 0 ≤ id → id < mc 57 4 → mc 61 id.toNat = -1) ∧ (∀ i j, 0 ≤ i → i < j → j ≤ e → mc 54 i.toNat < mc 54 j.toNat) ∧ (∀ i, 0 ≤ i → i ≤ e → 0 ≤ mc 54 i.toNat ∧ mc 54 i.toNat ≤ 1300) ∧ e ≤ 1300 ∧ mc 68 7 = 0 ∧ (0 ≤ mc 68 8 ∧ mc 68 8 ≤ 1600) ∧ mr 158 14 = 0 ∧ mr 158 15 = 0 ∧ mr 158 16 = -1 ∧ mr 158 41 = 0 ∧ TS (put (put (put (put mr 158 21 0) 158 24 6) 158 25 0) 158 29 5) s6 ∧ TB (put (put (put (put mr 158 21 0) 158 24 6) 158 25 0) 158 29 5) 0
/-- the class's state as it begins to make -/
def cst (cd : Nat) (m5 : Mem) : wS := (s85 m5, y85 m5, m5 68 5, m85 cd m5)
/-- the class's memory when it has made -/
def c6M (cd : Nat) (t : xT) (e : Int) (m5 : Mem) : Mem := mv cd e ((r85 cd t m5).1.1.map (lnk (r85 cd t m5).2.1.1), (r85 cd t m5).1.2) (sww (r85 cd t m5).2.2.1 (r85 cd t m5).2.1 (e85 cd t m5))
def m2M (j mr : Mem) (e : Int) : Mem := put (put (put (rv e 0 (jt j mr)) 158 14 1) 158 46 0) 158 36 0
theorem WK (hF : 100000 ≤ F) (hc : cd = 83 ∨ cd = 93) (hd : 800 ≤ d) (J : Ju mc mr e) :
    (∃ q, 0 ≤ q ∧ q ≤ e ∧ (∃ V', Cx F (d + 20) 18 [67] (Hp L xs mc) = some ([0], Hp L xs (gv q V' mc))) ∧ ∃ j' dp, Cx F (d + 20) 220 [158] (Hp L xs mr) = some ([], Hp L xs (fl q dp (jt j' mr)))) ∨
    (∃ t V' j' p' m' m5, m5 = gE t (gv e V' mc) ∧ Cx F (d + 20) 18 [67] (Hp L xs mc) = some ([1], Hp L xs (gv e V' mc)) ∧ Cx F (d + 20) 158 [57, 51] (Hp L xs (gv e V' mc)) = some ([], Hp L xs m5) ∧ Cx F (d + 20) 85 [68, (cd : Int)] (Hp L xs m5) = some ([], Hp L xs (c6M cd t e m5)) ∧ Cx F (d + 20) 220 [158] (Hp L xs mr) = some ([], Hp L xs (rv e 0 (jt j' mr))) ∧ Cx F (d + 20) 220 [158] (Hp L xs (m2M j' mr e)) = some ([], Hp L xs (rv p' 0 m')) ∧ PT (kd mc) (VF V') t 0 e ∧ Fr (kd mc) (fun k => mc 55 k) V' 0 e ∧ Kt (gv e V' mc) (gT t (gv e V' mc)) ∧ GJ (gT t (gv e V' mc)) e ∧ Kp (m85 cd m5) (r85 cd t m5).2.2.2 ∧ TCs m5 (sT (fun i => mr 163 i.toNat) t s6) ∧ TS j' (sT (fun i => mr 163 i.toNat) t s6) ∧ TB j' e ∧ SE (m85 cd m5) (m2M j' mr e) e ∧ FT (m2M j' mr e) m' ∧ ((∃ σ', TT cd (fun i => mr 163 i.toNat) e (nd 40 0 xz xz) e (xTo cd t (cst cd m5)) (fiveC ++ cT (fun i => mr 163 i.toNat) t) (rT t) (vwT (fun i => mr 163 i.toNat) t) m' σ' 3001 True ∧ E7 (mI2 (m2M j' mr e)) m' (kT t)) ∨ Br (m85 cd m5) m' (r85 cd t m5).1 0 e)) := by
  obtain ⟨T, hV, hI, hC, hG, h15, h61, hms, hpl, he, h687, h688, f14, f15, f16, f41, hS, hB⟩ := J
  have hg5 := hG.2.2.2.2.2.2.2.2
  rcases judge (F := F) T (by omega) f15 f14 hF hS hB with ⟨t, k0, kc, kr⟩ | ⟨q, k1, k2, kc, kr⟩
  · right
    obtain ⟨V', fr, hP, c1⟩ := kc L xs (d + 9) (fun k => mc 55 k) (mc 67 1) (by omega)
    rw [gv_id] at c1
    obtain ⟨j', hS', hB', r1⟩ := kr L xs (d + 9) (by omega)
    generalize hv : (fun i : Int => mr 163 i.toNat) = v at *
    -- the class gathers
    have hT4 : TCs (gv e V' mc) s6 := TCs_gv hC
    have hG4 : GJ (gv e V' mc) 0 := hG
    have hP4 : PT (kd (gv e V' mc)) (VF (fun i => gv e V' mc 55 i)) t 0 e := hP
    obtain ⟨c2, K2, G2⟩ := C_158 (F := F) (L := L) (xs := xs) (d := d + 16) (m := gv e V' mc) hF hP4 T.2.1 (by omega) hG4
    have idV : ∀ i : Int, 0 ≤ i → kd mc i ≠ 123 → idT (gv e V' mc) i = idT mc i := fun i h0 hk => by
      show (if i < 0 ∨ mc 51 5 ≤ i then 0 else V' i.toNat) = (if i < 0 ∨ mc 51 5 ≤ i then 0 else mc 55 i.toNat)
      rw [fr.2 i.toNat (by rw [Int.toNat_of_nonneg h0]; exact hk)]
    have hV4 : VC (gv e V' mc) v e := fun i h0 h1 => by
      obtain ⟨v1, v2⟩ := hV i h0 h1
      refine ⟨fun hk => ?_, fun hk => ?_⟩
      · have hk' : kd mc i = 2 := hk
        rw [idV i h0 (by omega)]
        exact v1 hk'
      · have hk' : kd mc i = 3 := hk
        rw [idV i h0 (by omega)]
        exact v2 hk'
    have hI4 : IJ (gv e V' mc) := hI
    have T5 := TC_T (v := v) (V := VF V') (e := e) (by omega) (tsz t + 1) t (by omega) (gv e V' mc) 0 s6 hP (by omega) (by have := hC.2.1; show 3 * mc 57 5 ≤ 0; rw [this]; decide) hV4 hI4 hT4
    have G5 := G15 (v := v) (V := VF V') (e := e) (by omega) (tsz t + 1) t (by omega) (gv e V' mc) 0 s6 hP (by omega) (by have := hC.2.1; show 3 * mc 57 5 ≤ 0; rw [this]; decide) T.2.1 hV4 hI4 hT4 (fun j j1 j2 => by
      have := hpl j j1 (by omega)
      show mc 54 j.toNat < mc 57 15
      omega) hms
    have i1 : imin (gT t (gv e V' mc) 57 7) 300 = imin (gT t (gv e V' mc) 57 7) 300 := rfl
    generalize hm5 : gE t (gv e V' mc) = m5 at *
    have o5 : ∀ a k, a ≠ 66 → m5 a k = gT t (gv e V' mc) a k := fun a k ha => by
      rw [← hm5]
      unfold gE
      rw [put_ss, if_neg ha]
    have K5 : ∀ a k, a = 51 ∨ a = 53 ∨ a = 54 ∨ a = 55 ∨ a = 58 ∨ a = 61 → m5 a k = gv e V' mc a k := fun a k ha => by
      rw [o5 a k (by omega)]
      exact K2.1 a k ha
    have f5 : ∀ a k, 67 < a → m5 a k = mc a k := fun a k ha => by
      rw [o5 a k (by omega), gT_f (by omega) (tsz t + 1) t (by omega) (gv e V' mc) 0 hP]
      unfold gv
      rw [if_neg (by omega), if_neg (by omega)]
    have n5 : m5 57 4 = mc 57 4 := by
      rw [o5 57 4 (by decide)]
      exact K2.2
    have kd5 : kd m5 = kd mc := by
      funext i
      unfold kd
      rw [K5 51 5 (by omega), K5 53 _ (by omega)]
      rfl
    have v5 : (fun i => m5 55 i) = V' := funext fun i => K5 55 i (by omega)
    have s5 : m5 51 5 = mc 51 5 := K5 51 5 (by omega)
    have p5 : m5 57 7 ≤ 300 := by
      rw [o5 57 7 (by decide)]
      have := G2.2.2.2.2.2.1
      omega
    have hP5 : PT (kd m5) (VF (fun i => m5 55 i)) t 0 e := by rw [kd5, v5]; exact hP
    obtain ⟨k85, c3⟩ := C_85 (F := F) (L := L) (xs := xs) (d := d + 6) (m := m5) (t := t) (e := e) hc hF (by rw [s5]; exact T.2.2.1) (by rw [n5]; exact hg5.1) p5 (by rw [s5]; exact T.2.1) T.1 hP5 (by omega)
    have T5' : TCs m5 (sT v t s6) := by
      obtain ⟨t1, t2, t3, t4, t5, t6, t7, t8⟩ := T5
      refine ⟨TA_cg (o5 57 4 (by decide)) (fun k => ⟨o5 58 k (by decide), o5 59 k (by decide), o5 60 k (by decide)⟩) t1, ?_, ?_, ?_, ?_, ?_, t7, fun i hi => ?_⟩
      · rw [o5 57 5 (by decide)]; exact t2
      · rw [o5 57 6 (by decide)]; exact t3
      · rw [o5 57 7 (by decide)]; exact t4
      · rw [o5 57 16 (by decide)]; exact t5
      · rw [o5 57 16 (by decide)]; exact t6
      · rw [o5 64 i (by decide)]; exact t8 i hi
    -- the class as it begins to make
    have q5 : ∀ a k, a < 83 → a ≠ 68 → m85 cd m5 a k = m5 a k := fun a k h1 h2 => by
      unfold m85
      rw [put_ss, if_neg h2, put_ss, if_neg h2, put_ss, if_neg h2]
    have kd6 : kd (m85 cd m5) = kd mc := by
      rw [← kd5]
      funext i
      unfold kd
      rw [q5 51 5 (by omega) (by omega), q5 53 _ (by omega) (by omega)]
    have T6 : TCs (m85 cd m5) (sT v t s6) := by
      obtain ⟨t1, t2, t3, t4, t5, t6, t7, t8⟩ := T5'
      refine ⟨TA_cg (q5 57 4 (by decide) (by decide)) (fun k => ⟨q5 58 k (by decide) (by decide), q5 59 k (by decide) (by decide), q5 60 k (by decide) (by decide)⟩) t1, ?_, ?_, ?_, ?_, ?_, t7, fun i hi => ?_⟩
      · rw [q5 57 5 (by decide) (by decide)]; exact t2
      · rw [q5 57 6 (by decide) (by decide)]; exact t3
      · rw [q5 57 7 (by decide) (by decide)]; exact t4
      · rw [q5 57 16 (by decide) (by decide)]; exact t5
      · rw [q5 57 16 (by decide) (by decide)]; exact t6
      · rw [q5 64 i (by decide) (by decide)]; exact t8 i hi
    have r54 : ∀ k, m85 cd m5 54 k = mc 54 k := fun k => by rw [q5 54 k (by decide) (by decide), K5 54 k (by omega)]; rfl
    have r4 : m85 cd m5 57 4 = mc 57 4 := by rw [q5 57 4 (by decide) (by decide), n5]
    have r58 : ∀ k, m85 cd m5 58 k = mc 58 k := fun k => by rw [q5 58 k (by decide) (by decide), K5 58 k (by omega)]; rfl
    have id6 : ∀ i : Int, idT (m85 cd m5) i = idT (gv e V' mc) i := fun i => by
      unfold idT
      rw [q5 51 5 (by decide) (by decide), q5 55 _ (by decide) (by decide), K5 51 5 (by omega), K5 55 _ (by omega)]
    have hV6 : VC (m85 cd m5) v e := fun i h0 h1 => by
      obtain ⟨v1, v2⟩ := hV4 i h0 h1
      rw [kd6, id6, r4, r58]
      exact ⟨v1, v2⟩
    have hI6 : IJ (m85 cd m5) := fun a b h0 h1 h2 h3 e => by
      rw [r4] at h1 h3
      rw [r58, r58] at e
      exact hI a b h0 h1 h2 h3 e
    -- the model between its walks
    obtain ⟨b1, b2, b3, b4, b5, b6, b7, b8, b9, b10, b11, b12, b13, b14, b15⟩ := hB'
    have o2 : ∀ a k, (a = 161 ∨ a = 162 ∨ a = 163) → m2M j' mr e a k = mr a k := fun a k ha => by
      rcases ha with z | z | z <;> subst z <;> rfl
    have jj : ∀ a k, (a = 165 ∨ a = 166 ∨ a = 167 ∨ a = 170) → m2M j' mr e a k = j' a k := fun a k ha => by
      rcases ha with z | z | z | z <;> subst z <;> rfl
    have T2 : TK (m85 cd m5) (m2M j' mr e) e := by
      obtain ⟨z1, z2, z3, z4, z5, z6⟩ := T
      refine ⟨z1, ?_, ?_, ?_, ?_, fun i h0 h1 => ?_⟩
      · rw [q5 51 5 (by decide) (by decide), s5]; exact z2
      · rw [q5 51 5 (by decide) (by decide), s5]; exact z3
      · rw [kd6]; exact z4
      · rw [kd6]; exact z5
      · rw [kd6, r54, o2 161 _ (by omega), o2 162 _ (by omega), o2 163 _ (by omega)]
        exact z6 i h0 h1
    have S2 : TS (m2M j' mr e) (sT v t s6) := by
      obtain ⟨z1, z2, z3, z4, z5, z6, z7, z8⟩ := hS'
      exact ⟨z1, fun i hi => by rw [jj 165 i (by omega), jj 166 i (by omega), jj 167 i (by omega)]; exact z2 i hi, z3, z4, z5, z6, z7, fun i hi => by rw [jj 170 i (by omega)]; exact z8 i hi⟩
    have N0 : NI s6 := by
      unfold NI
      refine ⟨?_, ?_, by decide, by decide, by decide⟩
      · show ∀ y ∈ five, _
        decide
      · show List.Pairwise _ five
        decide
    have N2 := NI_T (v := v) (tsz t + 1) t (by omega) 0 s6 hP N0
    obtain ⟨l1, l2, l3⟩ := sT_l (v := v) (tsz t + 1) t (by omega) 0 s6 hP
    have hvl : ∀ i, vlT (m2M j' mr e) i = v i := fun i => by rw [← hv]; rfl
    have x17 : ((sT v t s6).1.length : Int) = j' 158 17 := hS'.1.symm
    have x21 : j' 158 21 = (sT v t s6).2.1 := hS'.2.2.1
    have x24 : j' 158 24 = (sT v t s6).2.2.1 := hS'.2.2.2.1
    have x25 : j' 158 25 = (sT v t s6).2.2.2.1 := hS'.2.2.2.2.1
    have SE2 : SE (m85 cd m5) (m2M j' mr e) e := SE_mk (v := v) (s := sT v t s6) T2 hV6 hI6 T6 S2 N2 hvl (by omega) (fun i h0 h1 => by
      rw [r54]
      have := hpl i h0 h1
      omega) (fun i j h0 h1 h2 => by
      rw [r54, r54]
      exact hms i j h0 h1 h2) rfl (by omega) (by rw [← T5.2.1]; have := G2.2.1; omega) (by omega) (by rw [← T5.2.2.2.1]; have := G2.2.2.2.2.2.1; omega)
    have SE3 : SE (cst cd m5).2.2.2 (mI2 (m2M j' mr e)) e := SE_FQ SE2 (fun a k hk => by
      unfold mI2
      rw [put_ss, put_ss, put_ss, put_ss]
      by_cases z : a = 158
      · subst z
        have h1 : ¬ k = 29 := fun z => by subst z; exact absurd hk (by decide)
        have h2 : ¬ k = 25 := fun z => by subst z; exact absurd hk (by decide)
        have h3 : ¬ k = 24 := fun z => by subst z; exact absurd hk (by decide)
        have h4 : ¬ k = 21 := fun z => by subst z; exact absurd hk (by decide)
        rw [if_pos rfl, if_pos rfl, if_pos rfl, if_pos rfl, if_neg h1, if_neg h2, if_neg h3, if_neg h4]
      · rw [if_neg z, if_neg z, if_neg z, if_neg z])
    have hDD : m5 57 15 = if dT v t fiveC = -1 then 3001 else m85 cd m5 54 (dT v t fiveC).toNat := by
      rw [o5 57 15 (by decide), G5, r54]
      show (if dT v t fiveC = -1 then mc 57 15 else mc 54 (dT v t fiveC).toNat) = _
      rw [h15]
    have Tin : TT cd v e t 0 (cst cd m5) fiveC [] [] (mI2 (m2M j' mr e)) id (m5 57 15) True := TT_in (v := v) SE3 f15 f41 rfl rfl (by show mr 158 16 < 0; omega) b14 b11 (fun z => by
        have := l3 (Or.inr z)
        have h28 := hS'.2.2.2.2.2.1
        rw [this, if_pos rfl] at h28
        exact h28) (fun k hk => by
        have h8 := hS'.2.2.2.2.2.2.2
        rw [l2] at h8
        rw [jj 170 k (by omega)]
        exact h8 k hk) rfl (by
        have := TS_TBL S2
        rw [l1] at this
        exact this) hvl rfl rfl rfl rfl (by
        show m5 68 7 = 0
        rw [f5 68 7 (by omega)]
        exact h687) (fun id h0 h1 => by
        have h1' : id < mc 57 4 := by rw [← r4]; exact h1
        show m5 61 id.toNat = -1
        rw [K5 61 _ (by omega)]
        exact h61 id h0 h1') (by
        show 0 ≤ m5 68 8 ∧ m5 68 8 ≤ 1600
        rw [f5 68 8 (by omega)]
        exact h688) (by rcases hc with z | z <;> subst z <;> rfl) (by rcases hc with z | z <;> subst z <;> rfl) hDD
    have hP6 : PT (kd (cst cd m5).2.2.2) (VF V') t 0 e := by
      show PT (kd (m85 cd m5)) (VF V') t 0 e
      rw [kd6]; exact hP
    obtain ⟨p', m', r2, F2, Y⟩ := W_220 (F := F) (L := L) (xs := xs) (d := d + 6) (m := m2M j' mr e) hF hc (by omega) hP6 Tin
    refine ⟨t, V', j', p', m', m5, hm5.symm, c1, c2, c3, r1, r2, hP, fr, K2, G2, k85, T5', hS', ⟨b1, b2, b3, b4, b5, b6, b7, b8, b9, b10, b11, b12, b13, b14, b15⟩, SE2, F2, ?_⟩
    rcases Y with ⟨σ', Y, Y7⟩ | Y
    · left
      refine ⟨σ', ?_, Y7⟩
      have hD := Y.dd
      have e1 : m5 57 15 = 3001 := hD
      rw [e1] at Y
      exact Y
    · exact Or.inr Y
  · left
    refine ⟨q, k1, k2, ?_, kr L xs (d + 9) (by omega)⟩
    obtain ⟨V', c1⟩ := kc L xs (d + 9) (fun k => mc 55 k) (mc 67 1) (by omega)
    rw [gv_id] at c1
    exact ⟨V', c1⟩
end Wk
