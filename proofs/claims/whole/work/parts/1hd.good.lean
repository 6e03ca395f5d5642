/-! COMPILE: a good text -/
section Gd6
variable {F L d : Nat} {xs : Nat → Int32} {mc mr m' m5 j' M8 Y Z : Mem} {n e p' : Int} {b V' : Nat → Int} {cd : Nat} {t : xT}
theorem CP6 (hF : 100000 ≤ F) (hn : n ≤ 1300) (Yc : BY mc b n) (Ym : MTp mr b n) (Kc : KYc mc) (Km : KYm mr) (h17 : 0 ≤ mrF mr b n 158 17 ∧ mrF mr b n 158 17 ≤ 1600) (h15 : mrF mr b n 158 15 = 0) (h8 : m5 50 8 = (cd : Int)) (c18 : Cx F (d + 20) 18 [67] (Hp L xs (mcF mc b n)) = some ([1], Hp L xs (gv e V' (mcF mc b n)))) (c158 : Cx F (d + 20) 158 [57, 51] (Hp L xs (gv e V' (mcF mc b n))) = some ([], Hp L xs m5)) (c85 : Cx F (d + 20) 85 [68, (cd : Int)] (Hp L xs m5) = some ([], Hp L xs (c6M cd t e m5))) (r1 : Cx F (d + 20) 220 [158] (Hp L xs (mrF mr b n)) = some ([], Hp L xs (rv e 0 (jt j' (mrF mr b n))))) (r2 : Cx F (d + 20) 220 [158] (Hp L xs (m2M j' (mrF mr b n) e)) = some ([], Hp L xs (rv p' 0 m'))) (hnf : (r85 cd t m5).1.2.2.2.1 = 3001) (hcf : (r85 cd t m5).1.2.2.2.2 = 3001) (hb : m' 158 15 = 0) (h16 : m' 158 16 < 0) (q4 : 0 ≤ c6M cd t e m5 57 4 ∧ c6M cd t e m5 57 4 < 1510) (q7 : c6M cd t e m5 57 7 ≤ 300) (hmc : mnC (c6M cd t e m5) ≠ -1) (hmm : mnM (rv p' 0 m')) (ht : topK (rv p' 0 m') 660205 < 1600) (hi : 0 ≤ topK (rv p' 0 m') 660205 → 0 ≤ rv p' 0 m' 167 (topK (rv p' 0 m') 660205).toNat ∧ rv p' 0 m' 167 (topK (rv p' 0 m') 660205).toNat < 1600) (q16 : c6M cd t e m5 57 16 = 0 ∨ c6M cd t e m5 57 16 = 1) (hxc : ¬ exC (c6M cd t e m5)) (q15 : c6M cd t e m5 68 15 = 0) (q8 : c6M cd t e m5 50 8 = (cd : Int)) (h36 : Cx F (d + 20) 36 [71, (cd : Int)] (Hp L xs (c6M cd t e m5)) = some ([1], Hp L xs M8)) (g10 : M8 50 10 = 0) (g8 : M8 50 8 = (cd : Int)) (hc : cd = 83 ∨ cd = 93) (h28 : m' 158 28 = 0 ∨ m' 158 28 = 1) (h25 : 0 ≤ m' 158 25 ∧ m' 158 25 ≤ 1600) (h24 : 0 ≤ m' 158 24 ∧ m' 158 24 ≤ 5000) (hxm : ¬ exM (rv p' 0 m')) (h289 : Cx F (d + 19) 289 [158, rv p' 0 m' 167 (topK (rv p' 0 m') 660205).toNat] (Hp L xs (rv p' 0 m')) = some ([], Hp L xs Y)) (hY15 : Y 158 15 = 0) (hY : 0 ≤ Y 158 74 ∧ Y 158 74 ≤ 100000 ∧ 0 ≤ Y 158 75 ∧ Y 158 75 ≤ 100000) (hbig : ¬ 6000 < Y 158 74 + Y 158 75) (h256 : Cx F (d + 20) 256 [158, Y 167 (topK (rv p' 0 m') 660205).toNat] (Hp L xs Y) = some ([], Hp L xs Z)) : Cx F (d + 21) 181 [50] (Hp L xs mc) = some ([M8 cd 12], Hp L xs (put (put (put M8 51 1 0) 50 8 (M8 50 7)) 50 7 (cd : Int))) ∧ Cx F (d + 21) 252 [158] (Hp L xs mr) = some ([Z 158 68], Hp L xs Z) := by
  have e13 : c6M cd t e m5 68 13 = (r85 cd t m5).1.2.2.2.1 := rfl
  have e14 : c6M cd t e m5 68 14 = (r85 cd t m5).1.2.2.2.2 := rfl
  have c156 := C_156 (F := F) (L := L) (d := d + 13) (xs := xs) (M := c6M cd t e m5) hF q4.1 q4.2 q7
  have hfd := mnC_nf q4.1 hmc
  have eI : idM (c6M cd t e m5) 660205 = c6M cd t e m5 := if_neg hfd
  rw [eI] at c156
  refine ⟨?_, ?_⟩
  · refine C_181a (d := d + 12) hF hn Yc Kc ?_
    rw [ct6_g (D := d + 19) c18 c158 c85 h8 (by rw [e13]; exact hnf) (by rw [e14]; exact hcf) c156 hmc q16 hxc q15 q8 h36]
    exact ct7_g hc g10 g8
  · refine M_252a (d := d + 12) hF hn Ym Km ?_
    rw [mt23_s r1]
    have w := W_17 h17.1 h17.2 r1
    have w2 := W_17 (m := m2M j' (mrF mr b n) e) w.1 w.2 r2
    have hb2 : rv p' 0 m' 158 15 = 0 := hb
    have h16b : ¬ 0 ≤ rv p' 0 m' 158 16 := by
      show ¬ 0 ≤ m' 158 16
      omega
    rw [mt24_g (M := rv e 0 (jt j' (mrF mr b n))) h15 r2, mt25_n hb2 h16b, mt26_m (d := d + 13) hF w2.1 w2.2]
    have z := M_253s (F := F) (L := L) (d := d + 18) (xs := xs) (m := rv p' 0 m') (main := rv p' 0 m' 167 (topK (rv p' 0 m') 660205).toNat) hF hY15 h28 h25 h24 hxm h289 hY
    rw [if_neg hbig] at z
    rw [mt27_n (F := F) (L := L) (d := d + 19) (xs := xs) (M := rv p' 0 m') hb2 ht hi hmm z]
    exact mt29_g hY15 hmm.1 ht h256
end Gd6
