/-! COMPILE: a text with a wrong name -/
section Fl2
variable {F L d : Nat} {xs : Nat → Int32} {mc mr m' m5 j' : Mem} {n e p' : Int} {b V' : Nat → Int} {cd : Nat} {t : xT}
theorem CP2 (hF : 100000 ≤ F) (hn : n ≤ 1300) (Yc : BY mc b n) (Ym : MTp mr b n) (Kc : KYc mc) (Km : KYm mr) (h17 : 0 ≤ mrF mr b n 158 17 ∧ mrF mr b n 158 17 ≤ 1600) (h15 : mrF mr b n 158 15 = 0) (h8 : m5 50 8 = (cd : Int)) (c18 : Cx F (d + 20) 18 [67] (Hp L xs (mcF mc b n)) = some ([1], Hp L xs (gv e V' (mcF mc b n)))) (c158 : Cx F (d + 20) 158 [57, 51] (Hp L xs (gv e V' (mcF mc b n))) = some ([], Hp L xs m5)) (c85 : Cx F (d + 20) 85 [68, (cd : Int)] (Hp L xs m5) = some ([], Hp L xs (c6M cd t e m5))) (r1 : Cx F (d + 20) 220 [158] (Hp L xs (mrF mr b n)) = some ([], Hp L xs (rv e 0 (jt j' (mrF mr b n))))) (r2 : Cx F (d + 20) 220 [158] (Hp L xs (m2M j' (mrF mr b n) e)) = some ([], Hp L xs (rv p' 0 m'))) (B : Br (m85 cd m5) m' (r85 cd t m5).1 0 e) (hpl : ∀ j, 0 ≤ j → j ≤ e → m85 cd m5 54 j.toNat < 3001) : Cx F (d + 21) 181 [50] (Hp L xs mc) = some ([-1], Hp L xs (put (put (put (c6M cd t e m5) 50 10 2) 50 11 ((r85 cd t m5).1.2.2.2.1)) 51 1 0)) ∧ Cx F (d + 21) 252 [158] (Hp L xs mr) = some ([-1], Hp L xs (rv p' 0 m')) ∧ rv p' 0 m' 158 9 = 2 ∧ rv p' 0 m' 158 10 = (r85 cd t m5).1.2.2.2.1 := by
  obtain ⟨b1, b2, j, b3, b4, b5, b6⟩ := B
  have e13 : c6M cd t e m5 68 13 = (r85 cd t m5).1.2.2.2.1 := rfl
  have hne : ¬ c6M cd t e m5 68 13 = 3001 := by
    rw [e13, b6]
    have := hpl j b3 (by omega)
    omega
  refine ⟨?_, ?_, b2, by show m' 158 10 = _; rw [b5, b6]⟩
  · refine C_181a (d := d + 12) hF hn Yc Kc ?_
    rw [ct6_2 (D := d + 19) c18 c158 c85 h8 hne, e13]
    exact ct7_f (by
      show ¬ (2 : Int) = 0
      decide)
  · refine M_252a (d := d + 12) hF hn Ym Km ?_
    rw [mt23_s r1]
    have w := W_17 h17.1 h17.2 r1
    have w2 := W_17 (m := m2M j' (mrF mr b n) e) w.1 w.2 r2
    rw [mt24_g (M := rv e 0 (jt j' (mrF mr b n))) h15 r2]
    exact mt25_b (d := d + 13) hF b1 w2.1 w2.2
end Fl2
