/-! COMPILE: a text with a wrong call -/
section Fl3
variable {F L d : Nat} {xs : Nat → Int32} {mc mr m' m5 j' : Mem} {n e p' : Int} {b V' : Nat → Int} {cd : Nat} {t : xT} {v : Int → Int} {l ws : List Int} {rl : xLL} {σ : Int → Int}
/-- no wrong name in the second walk: what both hold of wrong calls -/
theorem cf_eq (TTn : TT cd v e (nd 40 0 xz xz) e (xTo cd t (cst cd m5)) l rl ws m' σ 3001 True) : (r85 cd t m5).1.2.2.2.1 = 3001 ∧ m' 158 15 = 0 ∧ ((m' 158 16 < 0 ∧ (r85 cd t m5).1.2.2.2.2 = 3001) ∨ (0 ≤ m' 158 16 ∧ m' 158 16 = (r85 cd t m5).1.2.2.2.2 ∧ (r85 cd t m5).1.2.2.2.2 < 3001)) := ⟨TTn.sr.rx.nf, TTn.b0, TTn.sr.rx.cf trivial⟩
theorem CP3 (hF : 100000 ≤ F) (hn : n ≤ 1300) (Yc : BY mc b n) (Ym : MTp mr b n) (Kc : KYc mc) (Km : KYm mr) (h17 : 0 ≤ mrF mr b n 158 17 ∧ mrF mr b n 158 17 ≤ 1600) (h15 : mrF mr b n 158 15 = 0) (h8 : m5 50 8 = (cd : Int)) (c18 : Cx F (d + 20) 18 [67] (Hp L xs (mcF mc b n)) = some ([1], Hp L xs (gv e V' (mcF mc b n)))) (c158 : Cx F (d + 20) 158 [57, 51] (Hp L xs (gv e V' (mcF mc b n))) = some ([], Hp L xs m5)) (c85 : Cx F (d + 20) 85 [68, (cd : Int)] (Hp L xs m5) = some ([], Hp L xs (c6M cd t e m5))) (r1 : Cx F (d + 20) 220 [158] (Hp L xs (mrF mr b n)) = some ([], Hp L xs (rv e 0 (jt j' (mrF mr b n))))) (r2 : Cx F (d + 20) 220 [158] (Hp L xs (m2M j' (mrF mr b n) e)) = some ([], Hp L xs (rv p' 0 m'))) (hnf : (r85 cd t m5).1.2.2.2.1 = 3001) (hb : m' 158 15 = 0) (h16 : 0 ≤ m' 158 16) (he : m' 158 16 = (r85 cd t m5).1.2.2.2.2) (hcf : (r85 cd t m5).1.2.2.2.2 < 3001) : Cx F (d + 21) 181 [50] (Hp L xs mc) = some ([-1], Hp L xs (put (put (put (c6M cd t e m5) 50 10 3) 50 11 ((r85 cd t m5).1.2.2.2.2)) 51 1 0)) ∧ Cx F (d + 21) 252 [158] (Hp L xs mr) = some ([-1], Hp L xs (bkG (rv p' 0 m') 3 ((r85 cd t m5).1.2.2.2.2))) := by
  have e13 : c6M cd t e m5 68 13 = (r85 cd t m5).1.2.2.2.1 := rfl
  have e14 : c6M cd t e m5 68 14 = (r85 cd t m5).1.2.2.2.2 := rfl
  refine ⟨?_, ?_⟩
  · refine C_181a (d := d + 12) hF hn Yc Kc ?_
    rw [ct6_3 (D := d + 19) c18 c158 c85 h8 (by rw [e13]; exact hnf) (by rw [e14]; omega), e14]
    exact ct7_f (by
      show ¬ (3 : Int) = 0
      decide)
  · refine M_252a (d := d + 12) hF hn Ym Km ?_
    rw [mt23_s r1]
    have w := W_17 h17.1 h17.2 r1
    have w2 := W_17 (m := m2M j' (mrF mr b n) e) w.1 w.2 r2
    rw [mt24_g (M := rv e 0 (jt j' (mrF mr b n))) h15 r2, ← he]
    exact mt25_3 (d := d + 13) hF hb h16 w2.1 w2.2
end Fl3
