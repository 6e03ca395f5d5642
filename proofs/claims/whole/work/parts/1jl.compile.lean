/-! COMPILE OF BOTH -/
def CBp (cd : Nat) (mc mr : Mem) (r : Int) (m1 m2 : Mem) : Prop := PCx cd mc m1 ∧ PMx mr m2 ∧ m1 50 10 = m2 158 9 ∧ m1 50 11 = m2 158 10 ∧ ((r = -1 ∧ PMf mr m2 ∧ m1 50 7 = mc 50 7 ∧ m1 50 8 = (cd : Int)) ∨ (m1 50 7 = (cd : Int) ∧ m1 50 8 = mc 50 7 ∧ r = m2 158 68 ∧ (∃ np n fe h u nc cs, PRQ m2 np n fe h u nc cs) ∧ CRq cd m1 m2 ∧ GX m2))
section Cb9
variable {F L D cd : Nat} {xs : Nat → Int32} {mc mr : Mem} {n : Int} {b : Nat → Int}
theorem CRq_c (hc : cd = 83 ∨ cd = 93) {c c' Z : Mem} (h : CRq cd c Z) (hf : ∀ a k, 83 ≤ a → c' a k = c a k) : CRq cd c' Z := by
  obtain ⟨⟨h1, h2, h3, h4, h5⟩, h6, h7, h8⟩ := h
  refine ⟨⟨?_, ?_, ?_, ?_, ?_⟩, fun i hi => ?_, fun p hp => ?_, fun k hk => ?_⟩
  · rw [hf _ _ (by omega)]; exact h1
  · rw [hf _ _ (by omega)]; exact h2
  · rw [hf _ _ (by omega)]; exact h3
  · rw [hf _ _ (by omega)]; exact h4
  · rw [hf _ _ (by omega)]; exact h5
  · rw [hf _ _ (by omega), hf _ _ (by omega), hf _ _ (by omega), hf _ _ (by omega)]; exact h6 i hi
  · rw [hf _ _ (by omega), hf _ _ (by omega), hf _ _ (by omega), hf _ _ (by omega)]; exact h7 p hp
  · rw [hf _ _ (by omega)]; exact h8 k hk
theorem PM_8 {m' j' m2 : Mem} {e p' e0 : Int} {Tm : mSt} {Qm W : Nat → Int} {x v : Nat} (T : FT (m2M j' (mrF mr b n) e) m') (h : ∀ a k, (a < 158 ∨ a = 159 ∨ a = 164 ∨ 201 ≤ a ∨ a = 158 ∧ (86 ≤ k ∨ k = 1 ∨ k = 11)) → m2 a k = cv W (yEnd Tm Qm (rv p' 0 m') (mLay p' m') e0 x v) a k) (h1 : mrF mr b n 158 1 = 0) (h2 : mrF mr b n 158 11 = 1) (hB : MyB m2) : PMx mr m2 := by
  refine ⟨fun a k g => ?_, ?_, ?_, hB⟩
  · rw [h a k (by omega), yE_k (by omega), M6k T (by unfold mkB; omega), mrF_mk (by unfold mkB; omega) (by omega)]
  · rw [h 158 1 (by omega), yE_k (by omega), M6k T (by unfold mkB; omega), h1]
  · rw [h 158 11 (by omega), yE_k (by omega), M6k T (by unfold mkB; omega), h2]
theorem m8_50 (hc : cd = 83 ∨ cd = 93) {S2 : lS} {Q2 : Nat → Int} {i6 p7 w4 sz2 : Int} {M : Mem} {k : Nat} : lyS S2 cd (qv cd Q2 i6 p7 (uv cd w4 sz2 (put M 71 1 (cd : Int)))) 50 k = M 50 k := m8_o (by omega) (by omega) (by omega) (by omega) (by omega)
theorem m8_51 (hc : cd = 83 ∨ cd = 93) {S2 : lS} {Q2 : Nat → Int} {i6 p7 w4 sz2 : Int} {M : Mem} {k : Nat} : lyS S2 cd (qv cd Q2 i6 p7 (uv cd w4 sz2 (put M 71 1 (cd : Int)))) 51 k = M 51 k := m8_o (by omega) (by omega) (by omega) (by omega) (by omega)
theorem CB (hF : 100000 ≤ F) (hc : cd = 83 ∨ cd = 93) (hD : 800 ≤ D) (hn : n ≤ 1300) (Yc : BY mc b n) (Ym : MTp mr b n) (Kc : KYc mc) (Km : KYm mr) (h7 : mc 68 7 = 0) (h8 : 0 ≤ mc 68 8 ∧ mc 68 8 ≤ 1600) (hcd : mc 50 8 = (cd : Int)) (hB : LyB mc cd) (hB0 : MyB mr) (h5 : ∀ k, 0 ≤ mc (cd + 5) k ∧ mc (cd + 5) k ≤ 1600) : ∃ r m1 m2, Cx F (D + 32) 181 [50] (Hp L xs mc) = some ([r], Hp L xs m1) ∧ Cx F (D + 32) 252 [158] (Hp L xs mr) = some ([r], Hp L xs m2) ∧ CBp cd mc mr r m1 m2 := by
  obtain ⟨J, h578, h574⟩ := Ju_mk hn Yc Ym h7 h8
  obtain ⟨o3, o1, o11, o14, o15, o9, o10, -⟩ := (mrF_ok hn Ym).1
  generalize gdN (tks b n (n + 1).toNat 0) = e at J
  have J' := J
  obtain ⟨T, hV, hI, hC, hG, g15, h61, hms, hpl, he, -, -, f14, f15, f16, f41, hS, hB'⟩ := J'
  have h17 : 0 ≤ mrF mr b n 158 17 ∧ mrF mr b n 158 17 ≤ 1600 := by
    have z : mrF mr b n 158 17 = 5 := hS.1
    omega
  have p50 : mcF mc b n 50 8 = (cd : Int) := (KcF_F 50 8 (by omega)).trans hcd
  rcases WK (F := F) (L := L) (xs := xs) (d := D + 11) (cd := cd) hF hc (by omega) J with ⟨q, q0, q1, ⟨V', c18⟩, j', dp, r220⟩ | ⟨t, V', j', p', m', m5, hm5, c18, c158, c85, r1, r2, hP, fr, K5, G5, k85, T5, S5, B5, SE5, FT5, hh⟩
  · obtain ⟨a1, a2⟩ := CP1 (d := D + 11) hF hn Yc Ym Kc Km ⟨q0, q1⟩ ⟨T.2.1, T.2.2.1⟩ h17 c18 r220
    obtain ⟨pm, pf, -⟩ := PM_mk (m2 := fl q dp (jt j' (mrF mr b n))) hB0 (fun a k h => by rw [fl_k h, jt_mk h]) o1 o11
    refine ⟨-1, _, _, a1, a2, PC_1 hc (q := q) (V' := V') (b := b) (n := n) h7 h8 hB h5 (fun a k h => by rw [put_ne (by omega), put_ne (by omega), put_ne (by omega)]) rfl, pm, rfl, ?_, Or.inl ⟨rfl, pf, ?_, ?_⟩⟩
    · exact ((T.2.2.2.2.2 q q0 q1).2).symm
    · exact KcF_F (m := mc) (b := b) (n := n) 50 7 (by omega)
    · exact p50
  have h8' : m5 50 8 = (cd : Int) := by
    rw [hm5, gE_f hP (by omega)]
    exact p50
  have hpl5 : ∀ j, 0 ≤ j → j ≤ e → m85 cd m5 54 j.toNat < 3001 := fun j h0 h1 => by
    rw [m85_o (by decide), hm5, gE_f hP (by omega)]
    have := hpl j h0 h1
    show mcF mc b n 54 _ < 3001
    omega
  have pB := fun (x y : Int) => PM_mk (m2 := bkG (rv p' 0 m') x y) hB0 (fun a k h => by rw [bk_k h, M6k FT5 h]) o1 o11
  have pR := PM_mk (m2 := rv p' 0 m') hB0 (fun a k h => M6k FT5 h) o1 o11
  have c7 : c6M cd t e m5 50 7 = mc 50 7 := C6k hc hm5 hP (by omega)
  have c8 : c6M cd t e m5 50 8 = (cd : Int) := (C6k hc hm5 hP (by omega)).trans hcd
  have pC := fun (x y : Int) => PC_6 (m1 := put (put (put (c6M cd t e m5) 50 10 x) 50 11 y) 51 1 0) hc hm5 hP h7 h8 hB h5 (fun a k h => by rw [put_ne (by omega), put_ne (by omega), put_ne (by omega)]) rfl
  rcases hh with ⟨σ, TTn, E7n⟩ | B
  case inr =>
    obtain ⟨a1, a2, a3, a4⟩ := CP2 (d := D + 11) hF hn Yc Ym Kc Km h17 f15 h8' c18 c158 c85 r1 r2 B hpl5
    refine ⟨-1, _, _, a1, a2, pC _ _, pR.1, ?_, ?_, Or.inl ⟨rfl, pR.2.1, c7, c8⟩⟩
    · rw [a3]; rfl
    · rw [a4]; rfl
  obtain ⟨hnf, hb, hcf⟩ := cf_eq TTn
  rcases hcf with ⟨h16, hcf⟩ | ⟨h16, hcfe, hcf⟩
  case inr =>
    obtain ⟨a1, a2⟩ := CP3 (d := D + 11) hF hn Yc Ym Kc Km h17 f15 h8' c18 c158 c85 r1 r2 hnf hb h16 hcfe hcf
    exact ⟨-1, _, _, a1, a2, pC _ _, (pB _ _).1, rfl, rfl, Or.inl ⟨rfl, (pB _ _).2.1, c7, c8⟩⟩
  have n4 : c6M cd t e m5 57 4 = mcF mc b n 57 4 := by
    rw [c6_o hc k85 (by omega) (by omega), hm5]
    exact K5.2
  have q4 : 0 ≤ c6M cd t e m5 57 4 ∧ c6M cd t e m5 57 4 < 1510 := by rw [n4]; exact h574
  have q7 : c6M cd t e m5 57 7 ≤ 300 := by
    rw [c6_o hc k85 (by omega) (by omega), hm5]
    show gT t (gv e V' (mcF mc b n)) 57 7 ≤ 300
    have := G5.2.2.2.2.2.1
    omega
  have q51 : c6M cd t e m5 51 1 = n := (C6k hc hm5 hP (by omega)).trans Yc.1
  have h3 : m' 158 3 = n := pR.2.2.trans o3
  have e165 : ∀ k, m' 165 k = j' 165 k := fun k => FT5.1 165 k rfl
  have e166 : ∀ k, m' 166 k = j' 166 k := fun k => FT5.1 166 k rfl
  have e167 : ∀ k, m' 167 k = j' 167 k := fun k => FT5.1 167 k rfl
  have e17 : m' 158 17 = j' 158 17 := FT5.1 158 17 rfl
  have NIs := NI_T (v := fun i => mrF mr b n 163 i.toNat) (tsz t + 1) t (by omega) 0 s6 hP NI_6
  have MN := main_eq (M := c6M cd t e m5) (j := j') (m' := rv p' 0 m') (TCs_c6 hc k85 T5) q4.1 (fun y hy => by
    obtain ⟨id, i1, i2⟩ := hI_mk hV (five_ok hn Yc) hP y hy
    refine ⟨id, by rw [n4]; exact i1, ?_⟩
    rw [c6_o hc k85 (by omega) (by omega), hm5]
    exact (K5.1 58 id (by omega)).trans i2) NIs S5 (fun k => ⟨e165 k, e166 k, e167 k, E7n.1 k⟩) e17
  have tk : topK (rv p' 0 m') 660205 = topK j' 660205 := by
    have z : (rv p' 0 m') 165 = j' 165 := funext e165
    have z2 : (rv p' 0 m') 158 17 = j' 158 17 := e17
    unfold topK
    rw [z, z2]
  have tt := TS_top (c := 660205) S5
  obtain ⟨-, b17, -, b21, -, b24, -, b25, -⟩ := B5
  have s17 := S5.1
  have s21 := S5.2.2.1
  have s24 := S5.2.2.2.1
  have s25 := S5.2.2.2.2.1
  have ht : topK (rv p' 0 m') 660205 < 1600 := by
    rw [tk]
    rcases tt with ⟨z, -⟩ | ⟨z0, z1, -⟩ <;> omega
  have hi : 0 ≤ topK (rv p' 0 m') 660205 → 0 ≤ rv p' 0 m' 167 (topK (rv p' 0 m') 660205).toNat ∧ rv p' 0 m' 167 (topK (rv p' 0 m') 660205).toNat < 1600 := fun h0 => by
    rw [tk] at h0 ⊢
    have z9 : rv p' 0 m' 167 (topK j' 660205).toNat = j' 167 (topK j' 660205).toNat := e167 _
    rw [z9]
    rcases tt with ⟨z, -⟩ | ⟨z0, z1, z2, z3, -⟩
    · omega
    · have z := NIs.1 _ z3
      rw [z2] at z
      dsimp only at z
      omega
  have TT' := TTn
  obtain ⟨-, -, -, -, -, -, -, w25, w21, w24, -, -, -, -, w28, -, -, wL, wr, ww⟩ := TT'
  have sn := sT_n (v := fun i => mrF mr b n 163 i.toNat) (tsz t + 1) t (by omega) 0 s6 hP
  have EX := ex_eq (m' := m') (z := (r85 cd t m5).2.2.2 68 15) T5 S5 E7n.2.2 (by rw [E7n.2.1, sn.2.1]; rfl) (by
    rw [sn.2.2, ← wr.1]
    show _ = (0 : Int) + _
    omega) (by
    rw [sn.1, ← ww.1]
    show _ = (0 : Int) + _
    omega) (fun k => E7n.1 k) wL.2
  have wz : (r85 cd t m5).2.2.2 68 15 = 0 ∨ (r85 cd t m5).2.2.2 68 15 = 1 := wL.1
  have q15 : c6M cd t e m5 68 15 = (r85 cd t m5).2.2.2 68 15 := c6_15 hc
  have q16 : c6M cd t e m5 57 16 = 0 ∨ c6M cd t e m5 57 16 = 1 := (TCs_c6 (e := e) hc k85 T5).2.2.2.2.1
  rcases MN with ⟨mn1, mn2⟩ | ⟨mn0, mn2, mn3⟩
  · obtain ⟨a1, a2⟩ := CP4 (d := D + 11) hF hn Yc Ym Kc Km h17 f15 h8' c18 c158 c85 r1 r2 hnf hcf hb h16 q4 q7 q51 h3 mn1 mn2 ht hi
    refine ⟨-1, _, _, a1, a2, PC_6 hc hm5 hP h7 h8 hB h5 (fun a k h => by rw [put_ne (by omega), put_ne (by omega), put_ne (by omega), idM_o (by omega)]) rfl, (pB _ _).1, rfl, rfl, Or.inl ⟨rfl, (pB _ _).2.1, ?_, ?_⟩⟩
    · show idM (c6M cd t e m5) 660205 50 7 = _
      rw [idM_o (by omega)]
      exact c7
    · show idM (c6M cd t e m5) 660205 50 8 = _
      rw [idM_o (by omega)]
      exact c8
  by_cases hx : exM m'
  · obtain ⟨a1, a2⟩ := CP5 (d := D + 11) hF hn Yc Ym Kc Km h17 f15 h8' c18 c158 c85 r1 r2 hnf hcf hb h16 q4 q7 q51 h3 (by omega) mn2 ht hi q16 (by rw [q15]; exact wz) (by
      rw [q15]
      exact (EX.2 hx).imp (exC_c6 hc k85).2 id) w28.1 (by omega) (by omega) hx
    exact ⟨-1, _, _, a1, a2, pC _ _, (pB _ _).1, rfl, rfl, Or.inl ⟨rfl, (pB _ _).2.1, c7, c8⟩⟩
  have nx : ¬ exC m5 := fun w => hx (EX.1 (Or.inl w))
  have nz : (r85 cd t m5).2.2.2 68 15 = 0 := by
    rcases wz with z | z
    · exact z
    · exact absurd (EX.1 (Or.inr z)) hx
  have nx6 : ¬ exC (c6M cd t e m5) := fun w => nx ((exC_c6 hc k85).1 w)
  have hPA := C6_5 hc hm5 hP h5
  obtain ⟨S2, Q2, i6, p7, w4, sz2, Tm, Qm, W, v, x, tb2, mB, c36, c289, y1, y2, gd⟩ := GD1 (F := F) (L := L) (xs := xs) (D := D) (p' := p') (mn := mnC (c6M cd t e m5)) hF hc J h578 h574 hm5 hP fr K5 G5 k85 T5 S5 TTn E7n hnf hcf nx nz (fun k => by
    have z := hPA k
    rw [c6_c hc (by omega)] at z
    omega) rfl (by omega) hx (by
    have z := mn2.2.2
    rw [mn3] at z
    exact z) (C6_B hc hm5 hP hB) pR.1.2.2.2
  have m8b : ∀ k, lyS S2 cd (qv cd Q2 i6 p7 (uv cd w4 sz2 (put (c6M cd t e m5) 71 1 (cd : Int)))) 50 k = c6M cd t e m5 50 k := fun k => m8_50 hc
  have m8c : lyS S2 cd (qv cd Q2 i6 p7 (uv cd w4 sz2 (put (c6M cd t e m5) 71 1 (cd : Int)))) 51 1 = c6M cd t e m5 51 1 := m8_51 hc
  have y15 : cv W (yEnd Tm Qm (rv p' 0 m') (mLay p' m') (mLay p' m' 182 (mnC (c6M cd t e m5)).toNat) x v) 158 15 = 0 := by
    rw [yE_k (by omega)]
    exact hb
  have y3 : cv W (yEnd Tm Qm (rv p' 0 m') (mLay p' m') (mLay p' m' 182 (mnC (c6M cd t e m5)).toNat) x v) 158 3 = n := by
    rw [yE_k (by omega)]
    exact h3
  by_cases big : 6000 < yEnd Tm Qm (rv p' 0 m') (mLay p' m') (mLay p' m' 182 (mnC (c6M cd t e m5)).toNat) x v 158 74 + yEnd Tm Qm (rv p' 0 m') (mLay p' m') (mLay p' m' 182 (mnC (c6M cd t e m5)).toNat) x v 158 75
  · rw [if_pos big] at c36
    obtain ⟨a1, a2⟩ := CP5b (d := D + 11) hF hn Yc Ym Kc Km h17 f15 h8' c18 c158 c85 r1 r2 hnf hcf hb h16 q4 q7 (by omega) mn2 ht hi q16 nx6 (by rw [q15]; exact nz) c8 c36 w28.1 (by omega) (by omega) hx (by rw [mn3]; exact c289) y15 ⟨y1.1, y1.2, y2.1, y2.2⟩ big
    refine ⟨-1, _, _, a1, a2, PC_8 hc tb2 hm5 hP h7 h8 h5 (fun a k h => by rw [put_ne (by omega), put_ne (by omega), put_ne (by omega)]; exact rfl) rfl, PM_8 FT5 (fun a k h => by unfold bkG; rw [put_ne (by omega), put_ne (by omega), put_ne (by omega)]) o1 o11 (cv_B mB), rfl, ?_, Or.inl ⟨rfl, ⟨fun k g1 g2 => ?_, fun a k g1 g2 => ?_⟩, ?_, ?_⟩⟩
    · exact m8c.trans (q51.trans y3.symm)
    · unfold bkG
      rw [put_ne (by omega), put_ne (by omega), put_ne (by omega), yE_k (by omega), M6k FT5 (by unfold mkB; omega), mrF_mk (by unfold mkB; omega) (by omega)]
    · unfold bkG
      rw [put_ne (by omega), put_ne (by omega), put_ne (by omega), yE_k (by omega), M6k FT5 (by unfold mkB; omega), mrF_mk (by unfold mkB; omega) (by omega)]
    · exact (m8b 7).trans c7
    · exact (m8b 8).trans c8
  · rw [if_neg big] at c36
    obtain ⟨c256, hPR, hCR, hGX⟩ := gd big
    have t167 : cv W (yEnd Tm Qm (rv p' 0 m') (mLay p' m') (mLay p' m' 182 (mnC (c6M cd t e m5)).toNat) x v) 167 (topK (rv p' 0 m') 660205).toNat = mnC (c6M cd t e m5) := mn3
    obtain ⟨a1, a2⟩ := CP6 (d := D + 11) hF hn Yc Ym Kc Km h17 f15 h8' c18 c158 c85 r1 r2 hnf hcf hb h16 q4 q7 (by omega) mn2 ht hi q16 nx6 (by rw [q15]; exact nz) c8 c36 (by rw [m8b, C6_50 hc hm5 hP]; exact mcF_50.2) (by rw [m8b]; exact c8) hc w28.1 (by omega) (by omega) hx (by rw [mn3]; exact c289) y15 ⟨y1.1, y1.2, y2.1, y2.2⟩ big (by rw [t167]; exact c256)
    have W9 := W_9 (m' := rv p' 0 m') hb r2
    have r68 := hCR.1.2.2.2.2
    rw [r68] at a1
    have k9 : ∀ k, k = 9 ∨ k = 10 → kMM (cv W (yEnd Tm Qm (rv p' 0 m') (mLay p' m') (mLay p' m' 182 (mnC (c6M cd t e m5)).toNat) x v)) (mnC (c6M cd t e m5)) 158 k = m' 158 k := fun k hk => by
      rw [kMM_k (by omega) (by omega), yE_k (by omega)]
      rcases hk with rfl | rfl <;> rfl
    refine ⟨_, _, _, a1, a2, PC_8 hc tb2 hm5 hP h7 h8 h5 (fun a k h => by rw [put_ne (by omega), put_ne (by omega), put_ne (by omega)]; exact rfl) rfl, PM_8 FT5 (fun a k h => kMM_k (by omega) (by omega)) o1 o11 (kMM_B mB), ?_, ?_, Or.inr ⟨rfl, (m8b 7).trans c7, rfl, ?_, CRq_c hc hCR (fun a k h => by rw [put_ne (by omega), put_ne (by omega), put_ne (by omega)]), hGX⟩⟩
    · rw [k9 9 (by omega)]
      exact ((m8b 10).trans (C6_50 hc hm5 hP)).trans (mcF_50.2.trans (W9.1.trans o9).symm)
    · rw [k9 10 (by omega)]
      exact ((m8b 11).trans (C6_50 hc hm5 hP)).trans (mcF_11.trans (W9.2.trans o10).symm)
    · obtain ⟨np, fe, h, u, nc, cs, P⟩ := hPR
      exact ⟨np, x, fe, h, u, nc, cs, P⟩
end Cb9
