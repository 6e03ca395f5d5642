/-! COMPILE: a text without main -/
section Fl4
variable {F L d : Nat} {xs : Nat → Int32} {mc mr m' m5 j' : Mem} {n e p' : Int} {b V' : Nat → Int} {cd : Nat} {t : xT}
theorem CP4 (hF : 100000 ≤ F) (hn : n ≤ 1300) (Yc : BY mc b n) (Ym : MTp mr b n) (Kc : KYc mc) (Km : KYm mr) (h17 : 0 ≤ mrF mr b n 158 17 ∧ mrF mr b n 158 17 ≤ 1600) (h15 : mrF mr b n 158 15 = 0) (h8 : m5 50 8 = (cd : Int)) (c18 : Cx F (d + 20) 18 [67] (Hp L xs (mcF mc b n)) = some ([1], Hp L xs (gv e V' (mcF mc b n)))) (c158 : Cx F (d + 20) 158 [57, 51] (Hp L xs (gv e V' (mcF mc b n))) = some ([], Hp L xs m5)) (c85 : Cx F (d + 20) 85 [68, (cd : Int)] (Hp L xs m5) = some ([], Hp L xs (c6M cd t e m5))) (r1 : Cx F (d + 20) 220 [158] (Hp L xs (mrF mr b n)) = some ([], Hp L xs (rv e 0 (jt j' (mrF mr b n))))) (r2 : Cx F (d + 20) 220 [158] (Hp L xs (m2M j' (mrF mr b n) e)) = some ([], Hp L xs (rv p' 0 m'))) (hnf : (r85 cd t m5).1.2.2.2.1 = 3001) (hcf : (r85 cd t m5).1.2.2.2.2 = 3001) (hb : m' 158 15 = 0) (h16 : m' 158 16 < 0) (q4 : 0 ≤ c6M cd t e m5 57 4 ∧ c6M cd t e m5 57 4 < 1510) (q7 : c6M cd t e m5 57 7 ≤ 300) (q51 : c6M cd t e m5 51 1 = n) (h3 : m' 158 3 = n) (hmc : mnC (c6M cd t e m5) = -1) (hmm : ¬ mnM (rv p' 0 m')) (ht : topK (rv p' 0 m') 660205 < 1600) (hi : 0 ≤ topK (rv p' 0 m') 660205 → 0 ≤ rv p' 0 m' 167 (topK (rv p' 0 m') 660205).toNat ∧ rv p' 0 m' 167 (topK (rv p' 0 m') 660205).toNat < 1600) : Cx F (d + 21) 181 [50] (Hp L xs mc) = some ([-1], Hp L xs (put (put (put (idM (c6M cd t e m5) 660205) 50 10 4) 50 11 n) 51 1 0)) ∧ Cx F (d + 21) 252 [158] (Hp L xs mr) = some ([-1], Hp L xs (bkG (rv p' 0 m') 4 n)) := by
  have e13 : c6M cd t e m5 68 13 = (r85 cd t m5).1.2.2.2.1 := rfl
  have e14 : c6M cd t e m5 68 14 = (r85 cd t m5).1.2.2.2.2 := rfl
  have c156 := C_156 (F := F) (L := L) (d := d + 13) (xs := xs) (M := c6M cd t e m5) hF q4.1 q4.2 q7
  rw [hmc] at c156
  refine ⟨?_, ?_⟩
  · refine C_181a (d := d + 12) hF hn Yc Kc ?_
    rw [ct6_4 (D := d + 19) c18 c158 c85 h8 (by rw [e13]; exact hnf) (by rw [e14]; exact hcf) c156, idM_51, q51]
    exact ct7_f (by
      show ¬ (4 : Int) = 0
      decide)
  · refine M_252a (d := d + 12) hF hn Ym Km ?_
    rw [mt23_s r1]
    have w := W_17 h17.1 h17.2 r1
    have w2 := W_17 (m := m2M j' (mrF mr b n) e) w.1 w.2 r2
    have e3 : rv p' 0 m' 158 3 = n := h3
    have hb2 : rv p' 0 m' 158 15 = 0 := hb
    have h16b : ¬ 0 ≤ rv p' 0 m' 158 16 := by
      show ¬ 0 ≤ m' 158 16
      omega
    rw [mt24_g (M := rv e 0 (jt j' (mrF mr b n))) h15 r2, mt25_n hb2 h16b, mt26_m (d := d + 13) hF w2.1 w2.2]
    have z := mt27_4 (F := F) (L := L) (d := d + 19) (xs := xs) (M := rv p' 0 m') hb2 ht hi hmm
    rw [e3] at z
    exact z
end Fl4
