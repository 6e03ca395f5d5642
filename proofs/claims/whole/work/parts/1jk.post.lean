/-! WHAT COMPILE LEAVES IN THE CLASS -/
def PCx (cd : Nat) (mc m1 : Mem) : Prop := (∀ a k, (a < 50 ∨ a = 50 ∧ k ≠ 7 ∧ k ≠ 8 ∧ k ≠ 9 ∧ k ≠ 10 ∧ k ≠ 11 ∨ a = 52 ∨ a = 56 ∨ 73 ≤ a ∧ (a < cd ∨ cd + 9 < a)) → m1 a k = mc a k) ∧ m1 51 1 = 0 ∧ m1 50 9 = 1 ∧ m1 68 7 = 0 ∧ (0 ≤ m1 68 8 ∧ m1 68 8 ≤ 1600) ∧ LyB m1 cd ∧ ∀ k, 0 ≤ m1 (cd + 5) k ∧ m1 (cd + 5) k ≤ 1600
section Po9
variable {mc m5 m1 : Mem} {cd : Nat} {e n : Int} {t : xT} {V' b : Nat → Int} {K V : Int → Int}
theorem LyB_c {m : Mem} (h : LyB m cd) (hf : ∀ a k, a = 71 ∨ a = 72 ∨ a = cd ∨ a = cd + 4 → m1 a k = m a k) : LyB m1 cd := by
  obtain ⟨h1, h2, h3, h4, h5, h6⟩ := h
  refine ⟨fun k => ?_, fun k => ?_, ?_, ?_, ?_, ?_⟩
  · rw [hf 72 k (by omega)]; exact h1 k
  · rw [hf _ k (by omega)]; exact h2 k
  · rw [hf 71 5 (by omega)]; exact h3
  · rw [hf 71 6 (by omega)]; exact h4
  · rw [hf 71 3 (by omega)]; exact h5
  · rw [hf cd 12 (by omega)]; exact h6
theorem PC_6 (hc : cd = 83 ∨ cd = 93) (hm5 : m5 = gE t (gv e V' (mcF mc b n))) (hP : PT K V t 0 e) (h7 : mc 68 7 = 0) (h8 : 0 ≤ mc 68 8 ∧ mc 68 8 ≤ 1600) (hB : LyB mc cd) (h5 : ∀ k, 0 ≤ mc (cd + 5) k ∧ mc (cd + 5) k ≤ 1600) (hf : ∀ a k, (a < 50 ∨ a = 50 ∧ k ≠ 7 ∧ k ≠ 8 ∧ k ≠ 10 ∧ k ≠ 11 ∨ a = 52 ∨ a = 56 ∨ 66 < a) → m1 a k = c6M cd t e m5 a k) (h51 : m1 51 1 = 0) : PCx cd mc m1 := by
  have z68 := C6_68 (cd := cd) hm5 hP h7 h8
  refine ⟨fun a k h => ?_, h51, ?_, ?_, ?_, ?_, fun k => ?_⟩
  · rw [hf a k (by omega)]
    exact C6k hc hm5 hP (by omega)
  · rw [hf 50 9 (by omega), C6_50 hc hm5 hP]
    exact mcF_50.1
  · rw [hf 68 7 (by omega)]
    exact z68.1
  · rw [hf 68 8 (by omega)]
    exact z68.2
  · exact LyB_c (C6_B hc hm5 hP hB) (fun a k h => hf a k (by omega))
  · rw [hf _ k (by omega)]
    exact C6_5 hc hm5 hP h5 k
/-- when it has laid -/
def m8L (S2 : lS) (Q2 : Nat → Int) (i6 p7 w4 sz2 : Int) (cd : Nat) (M : Mem) : Mem := lyS S2 cd (qv cd Q2 i6 p7 (uv cd w4 sz2 (put M 71 1 (cd : Int))))
theorem m8_o {S2 : lS} {Q2 : Nat → Int} {i6 p7 w4 sz2 : Int} {M : Mem} {a k : Nat} (h1 : a ≠ 71) (h2 : a ≠ 72) (h3 : a ≠ cd + 9) (h4 : a ≠ cd + 4) (h5 : a = cd → k ≠ 12) : m8L S2 Q2 i6 p7 w4 sz2 cd M a k = M a k := by
  unfold m8L lyS
  rw [ly_o h1 h2 h3]
  unfold qv uv
  rw [if_neg h1, if_neg h4, if_neg h1]
  by_cases c : a = cd
  · rw [if_pos c, if_neg (h5 c), put_ss, if_neg h1]
  · rw [if_neg c, put_ss, if_neg h1]
theorem m8_B (hc : cd = 83 ∨ cd = 93) {S2 : lS} {Q2 : Nat → Int} {i6 p7 w4 sz2 : Int} {M : Mem} (T : TB2 S2 Q2 i6 p7 w4 sz2) : LyB (m8L S2 Q2 i6 p7 w4 sz2 cd M) cd := by
  obtain ⟨b1, b2, b3, b4, b5, b6⟩ := T
  have e4 : ∀ k, m8L S2 Q2 i6 p7 w4 sz2 cd M (cd + 4) k = Q2 k := fun k => by
    unfold m8L lyS
    rw [ly_o (by omega) (by omega) (by omega)]
    unfold qv
    rw [if_neg (by omega), if_pos rfl]
  have e12 : m8L S2 Q2 i6 p7 w4 sz2 cd M cd 12 = sz2 := by
    unfold m8L lyS
    rw [ly_o (by omega) (by omega) (by omega)]
    unfold qv uv
    rw [if_neg (by omega), if_neg (by omega), if_neg (by omega), if_pos rfl, if_pos rfl]
  refine ⟨b1, fun k => ?_, b3, b4, b5, ?_⟩
  · rw [e4]; exact b2 k
  · rw [e12]; exact b6
theorem PC_8 (hc : cd = 83 ∨ cd = 93) {S2 : lS} {Q2 : Nat → Int} {i6 p7 w4 sz2 : Int} (T : TB2 S2 Q2 i6 p7 w4 sz2) (hm5 : m5 = gE t (gv e V' (mcF mc b n))) (hP : PT K V t 0 e) (h7 : mc 68 7 = 0) (h8 : 0 ≤ mc 68 8 ∧ mc 68 8 ≤ 1600) (h5 : ∀ k, 0 ≤ mc (cd + 5) k ∧ mc (cd + 5) k ≤ 1600) (hf : ∀ a k, (a < 50 ∨ a = 50 ∧ k ≠ 7 ∧ k ≠ 8 ∧ k ≠ 10 ∧ k ≠ 11 ∨ a = 52 ∨ a = 56 ∨ 66 < a) → m1 a k = m8L S2 Q2 i6 p7 w4 sz2 cd (c6M cd t e m5) a k) (h51 : m1 51 1 = 0) : PCx cd mc m1 := by
  have z68 := C6_68 (cd := cd) hm5 hP h7 h8
  refine ⟨fun a k h => ?_, h51, ?_, ?_, ?_, ?_, fun k => ?_⟩
  · rw [hf a k (by omega), m8_o (by omega) (by omega) (by omega) (by omega) (by omega)]
    exact C6k hc hm5 hP (by omega)
  · rw [hf 50 9 (by omega), m8_o (by omega) (by omega) (by omega) (by omega) (by omega), C6_50 hc hm5 hP]
    exact mcF_50.1
  · rw [hf 68 7 (by omega), m8_o (by omega) (by omega) (by omega) (by omega) (by omega)]
    exact z68.1
  · rw [hf 68 8 (by omega), m8_o (by omega) (by omega) (by omega) (by omega) (by omega)]
    exact z68.2
  · exact LyB_c (m8_B hc (M := c6M cd t e m5) T) (fun a k h => hf a k (by omega))
  · rw [hf _ k (by omega), m8_o (by omega) (by omega) (by omega) (by omega) (by omega)]
    exact C6_5 hc hm5 hP h5 k
/-- a text that is no program -/
theorem PC_1 (hc : cd = 83 ∨ cd = 93) {q : Int} (h7 : mc 68 7 = 0) (h8 : 0 ≤ mc 68 8 ∧ mc 68 8 ≤ 1600) (hB : LyB mc cd) (h5 : ∀ k, 0 ≤ mc (cd + 5) k ∧ mc (cd + 5) k ≤ 1600) (hf : ∀ a k, (a < 50 ∨ a = 50 ∧ k ≠ 7 ∧ k ≠ 8 ∧ k ≠ 10 ∧ k ≠ 11 ∨ a = 52 ∨ a = 56 ∨ 66 < a) → m1 a k = gv q V' (mcF mc b n) a k) (h51 : m1 51 1 = 0) : PCx cd mc m1 := by
  have g : ∀ a k, (a < 50 ∨ a = 50 ∧ k ≠ 7 ∧ k ≠ 8 ∧ k ≠ 9 ∧ k ≠ 10 ∧ k ≠ 11 ∨ a = 52 ∨ a = 56 ∨ 67 < a) → m1 a k = mc a k := fun a k h => by
    rw [hf a k (by omega), ← KcF_F (m := mc) (b := b) (n := n) a k (by omega)]
    unfold gv
    rw [if_neg (by omega), if_neg (by omega)]
  refine ⟨fun a k h => g a k (by omega), h51, ?_, ?_, ?_, ?_, fun k => ?_⟩
  · rw [hf 50 9 (by omega)]
    exact mcF_50.1
  · rw [g 68 7 (by omega)]; exact h7
  · rw [g 68 8 (by omega)]; exact h8
  · exact LyB_c hB (fun a k h => g a k (by omega))
  · rw [g _ k (by omega)]; exact h5 k
theorem idM_o {m : Mem} {c : Int} {a k : Nat} (h : a < 57 ∨ 61 < a) : idM m c a k = m a k := by
  unfold idM
  split
  · rw [put_ne (by omega), put_ne (by omega), put_ne (by omega), put_ne (by omega), put_ne (by omega)]
  · rfl
theorem mcF_11 : mcF mc b n 50 11 = -1 := by
  have K1 := KC_aF (m := tkFs (put (bgM (c0M mc)) 51 5 0) (tks b n (n + 1).toNat 0)) (k := 0) (p := n) (v := 0)
  have K2 := KC_tkFs (tks b n (n + 1).toNat 0) (put (bgM (c0M mc)) 51 5 0)
  unfold mcF
  rw [K1 50 11 (by omega), K2 50 11 (by omega), put_ss, if_neg (by decide)]
  unfold bgM tA bg0 c0M
  simp only [put_ss, Nat.reduceEqDiff, if_true, if_false]
theorem TCs_c6 (hc : cd = 83 ∨ cd = 93) (k85 : Kp (m85 cd m5) (r85 cd t m5).2.2.2) {s : tS6} (T : TCs m5 s) : TCs (c6M cd t e m5) s := by
  obtain ⟨t1, t2, t3, t4, t5, t6, t7, t8⟩ := T
  have o : ∀ a k, a = 57 ∨ a = 58 ∨ a = 59 ∨ a = 60 ∨ a = 64 → c6M cd t e m5 a k = m5 a k := fun a k h => c6_o hc k85 (by omega) (by omega)
  refine ⟨TA_cg (o 57 4 (by omega)) (fun k => ⟨o 58 k (by omega), o 59 k (by omega), o 60 k (by omega)⟩) t1, ?_, ?_, ?_, ?_, ?_, t7, fun i hi => ?_⟩
  · rw [o 57 5 (by omega)]; exact t2
  · rw [o 57 6 (by omega)]; exact t3
  · rw [o 57 7 (by omega)]; exact t4
  · rw [o 57 16 (by omega)]; exact t5
  · rw [o 57 16 (by omega)]; exact t6
  · rw [o 64 i (by omega)]; exact t8 i hi
theorem exC_c6 (hc : cd = 83 ∨ cd = 93) (k85 : Kp (m85 cd m5) (r85 cd t m5).2.2.2) : exC (c6M cd t e m5) ↔ exC m5 := by
  have o : ∀ k, c6M cd t e m5 57 k = m5 57 k := fun k => c6_o hc k85 (by omega) (by omega)
  unfold exC
  rw [o, o, o, o]
theorem c6_15 (hc : cd = 83 ∨ cd = 93) : c6M cd t e m5 68 15 = (r85 cd t m5).2.2.2 68 15 := by
  show e85 cd t m5 68 15 = _
  unfold e85
  rw [put_ne (by omega), put_ne (by omega), put_ne (by omega)]
end Po9
