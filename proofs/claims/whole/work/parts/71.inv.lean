/-! WHAT HOLDS BETWEEN THE CALLS, class and model in one memory -/
/-- the model's machine is the class's -/
def EQv (G m : Mem) : Prop := (m 158 95 = G 78 2 ∧ m 158 96 = G 78 3 ∧ m 158 97 = G 78 4 ∧ m 158 98 = G 78 5 ∧ m 158 99 = G 78 6) ∧ (m 158 103 = G 78 8 ∧ m 158 104 = G 78 9 ∧ m 158 106 = G 78 11 ∧ m 158 100 = G 78 12 ∧ m 158 101 = G 78 13) ∧ (∀ k, m 206 k = G 79 k) ∧ (∀ k, m 207 k = G 80 k) ∧ (∀ k, m 208 k = G 81 k) ∧ ∀ k, m 209 k = sg (G 82 k)
/-- a machine's cell of the model -/
def mcl (a k : Nat) : Prop := a = 158 ∧ (k = 95 ∨ k = 96 ∨ k = 97 ∨ k = 98 ∨ k = 99 ∨ k = 103 ∨ k = 104 ∨ k = 106 ∨ k = 100 ∨ k = 101) ∨ a = 206 ∨ a = 207 ∨ a = 208 ∨ a = 209
section Wme
variable {G m X Y : Mem} {a k : Nat}
theorem wmx_o (h : ¬ mcl a k) : wmG G X a k = X a k := by
  unfold mcl at h
  by_cases c : a = 158
  · subst c
    unfold wmG wm
    rw [if_pos rfl, if_neg (by omega), if_neg (by omega), if_neg (by omega), if_neg (by omega), if_neg (by omega), if_neg (by omega), if_neg (by omega), if_neg (by omega), if_neg (by omega), if_neg (by omega)]
  · unfold wmG wm
    rw [if_neg c, if_neg (by omega), if_neg (by omega), if_neg (by omega), if_neg (by omega)]
theorem wmx_c (h : mcl a k) : wmG G X a k = wmG G Y a k := by
  unfold mcl at h
  rcases h with ⟨rfl, h⟩ | rfl | rfl | rfl | rfl
  · rcases h with rfl | rfl | rfl | rfl | rfl | rfl | rfl | rfl | rfl | rfl <;> rfl
  · rfl
  · rfl
  · rfl
  · rfl
theorem wmx_id (h : EQv G m) : wmG G m = m := by
  obtain ⟨⟨h1, h2, h3, h4, h5⟩, ⟨h6, h7, h8, h9, h10⟩, h11, h12, h13, h14⟩ := h
  funext a k
  by_cases c : mcl a k
  · unfold mcl at c
    rcases c with ⟨rfl, c⟩ | rfl | rfl | rfl | rfl
    · rcases c with rfl | rfl | rfl | rfl | rfl | rfl | rfl | rfl | rfl | rfl
      · exact h1.symm
      · exact h2.symm
      · exact h3.symm
      · exact h4.symm
      · exact h5.symm
      · exact h6.symm
      · exact h7.symm
      · exact h8.symm
      · exact h9.symm
      · exact h10.symm
    · exact (h11 k).symm
    · exact (h12 k).symm
    · exact (h13 k).symm
    · exact (h14 k).symm
  · exact wmx_o c
theorem EQv_w : EQv G (wmG G X) := ⟨⟨rfl, rfl, rfl, rfl, rfl⟩, ⟨rfl, rfl, rfl, rfl, rfl⟩, fun _ => rfl, fun _ => rfl, fun _ => rfl, fun _ => rfl⟩
/-- along cells -/
theorem EQv_c {G2 m2 : Mem} (h : EQv G m) (hG : ∀ a k, 78 ≤ a → a ≤ 82 → G2 a k = G a k) (hm : ∀ a k, mcl a k → m2 a k = m a k) : EQv G2 m2 := by
  obtain ⟨⟨h1, h2, h3, h4, h5⟩, ⟨h6, h7, h8, h9, h10⟩, h11, h12, h13, h14⟩ := h
  have g : ∀ k, G2 78 k = G 78 k := fun k => hG 78 k (by omega) (by omega)
  have q : ∀ k, (k = 95 ∨ k = 96 ∨ k = 97 ∨ k = 98 ∨ k = 99 ∨ k = 103 ∨ k = 104 ∨ k = 106 ∨ k = 100 ∨ k = 101) → m2 158 k = m 158 k := fun k hk => hm 158 k (Or.inl ⟨rfl, hk⟩)
  refine ⟨⟨?_, ?_, ?_, ?_, ?_⟩, ⟨?_, ?_, ?_, ?_, ?_⟩, fun k => ?_, fun k => ?_, fun k => ?_, fun k => ?_⟩
  · rw [q 95 (by omega), g]; exact h1
  · rw [q 96 (by omega), g]; exact h2
  · rw [q 97 (by omega), g]; exact h3
  · rw [q 98 (by omega), g]; exact h4
  · rw [q 99 (by omega), g]; exact h5
  · rw [q 103 (by omega), g]; exact h6
  · rw [q 104 (by omega), g]; exact h7
  · rw [q 106 (by omega), g]; exact h8
  · rw [q 100 (by omega), g]; exact h9
  · rw [q 101 (by omega), g]; exact h10
  · rw [hm 206 k (by unfold mcl; omega), hG 79 k (by omega) (by omega)]; exact h11 k
  · rw [hm 207 k (by unfold mcl; omega), hG 80 k (by omega) (by omega)]; exact h12 k
  · rw [hm 208 k (by unfold mcl; omega), hG 81 k (by omega) (by omega)]; exact h13 k
  · rw [hm 209 k (by unfold mcl; omega), hG 82 k (by omega) (by omega)]; exact h14 k
theorem WC_c {m2 : Mem} (W : WC m) (hG : ∀ a k, 78 ≤ a → a ≤ 82 → m2 a k = m a k) : WC m2 := by
  have g : ∀ k, m2 78 k = m 78 k := fun k => hG 78 k (by omega) (by omega)
  obtain ⟨⟨w2, w3, w4, w5, w6, w9, w11, w79, w80, w81⟩, w12, wo, w13⟩ := W
  refine ⟨⟨?_, ?_, ?_, ?_, ?_, ?_, ?_, fun k hk => ?_, fun k hk => ?_, fun k hk => ?_⟩, ?_, ?_, ?_⟩
  · rw [g]; exact w2
  · rw [g]; exact w3
  · rw [g]; exact w4
  · rw [g]; exact w5
  · rw [g]; exact w6
  · rw [g, g]; exact w9
  · rw [g]; exact w11
  · rw [hG 79 k (by omega) (by omega)]; exact w79 k hk
  · rw [hG 80 k (by omega) (by omega)]; exact w80 k hk
  · rw [hG 81 k (by omega) (by omega)]; exact w81 k hk
  · rw [g, g]; exact w12
  · rw [g, g]; exact wo
  · rw [g]; exact w13
end Wme
/-- what stays but at compile -/
def stay (a k : Nat) : Prop := a = 50 ∨ a = 56 ∨ a = 68 ∨ a = 71 ∨ a = 72 ∨ (a = 73 ∧ k ≠ 6) ∨ a = 74 ∨ a = 75 ∨ (83 ≤ a ∧ a ≤ 102) ∨ (a = 158 ∧ (9 ≤ k ∧ k ≤ 11 ∨ 54 ≤ k ∧ k ≤ 72 ∨ 85 ≤ k ∧ k ≤ 91)) ∨ a = 164 ∨ a = 169 ∨ a = 180 ∨ (184 ≤ a ∧ a ≤ 194) ∨ a = 198 ∨ a = 201 ∨ a = 202 ∨ a = 204
/-- the net of both -/
def NCt (m : Mem) : Prop := (m 158 86 = m 73 0 ∧ m 158 91 = m 73 1) ∧ (∀ j : Nat, 212 ≤ j → (j : Int) < m 73 0 → m 201 j = m 74 j ∧ m 202 j = m 75 j) ∧ (∀ j : Nat, 2 ≤ j → j < 196 → m 204 j = m 74 j) ∧ (∀ j : Nat, (0 ≤ m 201 j ∧ m 201 j < 4104) ∧ 0 ≤ m 202 j ∧ m 202 j < 4104)
/-- the faults of both -/
def FLt (m : Mem) : Prop := (m 50 9 = 0 ∨ m 50 9 = 1) ∧ m 158 11 = m 50 9 ∧ (m 50 9 = 1 → m 50 10 = m 158 9 ∧ m 50 11 = m 158 10)
/-- the code that stands -/
def CDx (cd : Nat) (m : Mem) : Prop := (m 158 54 = 0 ∧ m cd 0 = 0 ∧ m cd 5 = 0 ∧ m cd 10 = 0 ∧ m cd 11 = 0 ∧ m cd 12 = 0) ∨ (GX m ∧ (∃ np n fe h u nc cs, PRQ m np n fe h u nc cs) ∧ CRq cd m m)
def CDe (m : Mem) : Prop := ∃ cd ot : Nat, (cd = 83 ∧ ot = 93 ∨ cd = 93 ∧ ot = 83) ∧ m 50 7 = (cd : Int) ∧ m 50 8 = (ot : Int) ∧ CDx cd m
def STa (m : Mem) : Prop := (KYc m ∧ KYm m) ∧ (m 68 7 = 0 ∧ 0 ≤ m 68 8 ∧ m 68 8 ≤ 1600) ∧ (LyB m 83 ∧ LyB m 93 ∧ MyB m) ∧ ((∀ k, 0 ≤ m 88 k ∧ m 88 k ≤ 1600) ∧ ∀ k, 0 ≤ m 98 k ∧ m 98 k ≤ 1600) ∧ FLt m ∧ CDe m ∧ NCt m
/-- the text -/
def TXt (K : Nat) (m : Mem) : Prop := ∃ b n, BY m b n ∧ MTp m b n ∧ n ≤ 20 * (K : Int)
/-- what holds behind K calls -/
def INv (K : Nat) (m : Mem) : Prop := (EQv m m ∧ WC m) ∧ TXt K m ∧ STa m ∧ WQ m ∧ (m 216 0 = 0 ∧ ∀ j : Nat, m 216 j = 0 ∨ m 216 j = 1)
section Ivc
variable {m m2 : Mem} {cd K : Nat}
theorem CRq_m (h : CRq cd m m) (g : ∀ a k, cd ≤ a → a ≤ cd + 9 → m2 a k = m a k) (f : ∀ k, 54 ≤ k → k ≤ 72 → m2 158 k = m 158 k) (q : ∀ a k, 184 ≤ a → a ≤ 194 → m2 a k = m a k) : CRq cd m2 m2 := by
  obtain ⟨⟨h1, h2, h3, h4, h5⟩, h6, h7, h8⟩ := h
  refine ⟨⟨?_, ?_, ?_, ?_, ?_⟩, fun i hi => ?_, fun p hp => ?_, fun k hk => ?_⟩
  · rw [g cd 0 (by omega) (by omega), f 55 (by omega) (by omega)]; exact h1
  · rw [g cd 5 (by omega) (by omega), f 60 (by omega) (by omega)]; exact h2
  · rw [g cd 10 (by omega) (by omega), f 61 (by omega) (by omega)]; exact h3
  · rw [g cd 11 (by omega) (by omega), f 70 (by omega) (by omega)]; exact h4
  · rw [g cd 12 (by omega) (by omega), f 68 (by omega) (by omega)]; exact h5
  · rw [f 55 (by omega) (by omega)] at hi
    rw [g (cd + 1) i (by omega) (by omega), g (cd + 2) i (by omega) (by omega), g (cd + 3) i (by omega) (by omega), g (cd + 4) i (by omega) (by omega), q 184 i (by omega) (by omega), q 185 i (by omega) (by omega), q 186 i (by omega) (by omega), q 187 i (by omega) (by omega)]
    exact h6 i hi
  · rw [f 60 (by omega) (by omega)] at hp
    rw [g (cd + 5) p (by omega) (by omega), g (cd + 6) p (by omega) (by omega), g (cd + 7) p (by omega) (by omega), g (cd + 8) p (by omega) (by omega), q 188 p (by omega) (by omega), q 189 p (by omega) (by omega), q 190 p (by omega) (by omega), q 191 p (by omega) (by omega)]
    exact h7 p hp
  · rw [f 68 (by omega) (by omega)] at hk
    rw [g (cd + 9) k (by omega) (by omega), q 193 k (by omega) (by omega)]
    exact h8 k hk
theorem GX_m (h : GX m) (f : ∀ k, 54 ≤ k → k ≤ 72 → m2 158 k = m 158 k) (q : ∀ a k, 184 ≤ a → a ≤ 194 → m2 a k = m a k) : GX m2 := by
  obtain ⟨h1, h2, h3, h4⟩ := h
  refine ⟨?_, ?_, ?_, fun k hk => ?_⟩
  · rw [f 54 (by omega) (by omega)]; exact h1
  · rw [f 55 (by omega) (by omega)]; exact h2
  · rw [f 60 (by omega) (by omega)]; exact h3
  · rw [f 68 (by omega) (by omega)] at hk
    rw [q 193 k (by omega) (by omega)]
    exact h4 k hk
theorem PRQ_m {np n : Nat} {fe : Nat → Nat} {h u : Nat → Int} {nc : Int} {cs : Nat → List Int} (Q : PRQ m np n fe h u nc cs) (f : ∀ k, 54 ≤ k → k ≤ 72 → m2 158 k = m 158 k) (q : ∀ a k, 184 ≤ a → a ≤ 194 → m2 a k = m a k) : PRQ m2 np n fe h u nc cs := PRQ_c Q q ⟨f 67 (by omega) (by omega), f 68 (by omega) (by omega), f 70 (by omega) (by omega), f 71 (by omega) (by omega)⟩
theorem CDx_m (h : CDx cd m) (g : ∀ a k, cd ≤ a → a ≤ cd + 9 → m2 a k = m a k) (f : ∀ k, 54 ≤ k → k ≤ 72 → m2 158 k = m 158 k) (q : ∀ a k, 184 ≤ a → a ≤ 194 → m2 a k = m a k) : CDx cd m2 := by
  rcases h with ⟨h1, h2, h3, h4, h5, h6⟩ | ⟨h1, ⟨np, n, fe, h, u, nc, cs, h2⟩, h3⟩
  · refine Or.inl ⟨?_, ?_, ?_, ?_, ?_, ?_⟩
    · rw [f 54 (by omega) (by omega)]; exact h1
    · rw [g cd 0 (by omega) (by omega)]; exact h2
    · rw [g cd 5 (by omega) (by omega)]; exact h3
    · rw [g cd 10 (by omega) (by omega)]; exact h4
    · rw [g cd 11 (by omega) (by omega)]; exact h5
    · rw [g cd 12 (by omega) (by omega)]; exact h6
  · exact Or.inr ⟨GX_m h1 f q, ⟨np, n, fe, h, u, nc, cs, PRQ_m h2 f q⟩, CRq_m h3 g f q⟩
theorem MyB_m (h : MyB m) (hf : ∀ a k, stay a k → m2 a k = m a k) : MyB m2 := by
  obtain ⟨g1, g2, g3, g4⟩ := h
  refine ⟨fun k => ?_, fun k => ?_, ?_, fun k => ?_⟩
  · have z := g1 k
    rw [hf 198 k (by unfold stay; omega)]
    exact z
  · rw [hf 180 k (by unfold stay; omega)]
    exact g2 k
  · rw [hf 158 85 (by unfold stay; omega)]
    exact g3
  · rw [hf 169 k (by unfold stay; omega)]
    exact g4 k
theorem NCt_m (h : NCt m) (h7 : ∀ k, k ≠ 6 → m2 73 k = m 73 k) (h8 : ∀ k, 86 ≤ k → k ≤ 91 → m2 158 k = m 158 k) (ha : ∀ a k, a = 74 ∨ a = 75 ∨ a = 201 ∨ a = 202 ∨ a = 204 → m2 a k = m a k) : NCt m2 := by
  obtain ⟨⟨h1, h2⟩, h3, h4, h5⟩ := h
  refine ⟨⟨?_, ?_⟩, fun j g1 g2 => ?_, fun j g1 g2 => ?_, fun j => ?_⟩
  · rw [h8 86 (by omega) (by omega), h7 0 (by omega)]; exact h1
  · rw [h8 91 (by omega) (by omega), h7 1 (by omega)]; exact h2
  · rw [h7 0 (by omega)] at g2
    rw [ha 201 j (by omega), ha 202 j (by omega), ha 74 j (by omega), ha 75 j (by omega)]
    exact h3 j g1 g2
  · rw [ha 204 j (by omega), ha 74 j (by omega)]
    exact h4 j g1 g2
  · rw [ha 201 j (by omega), ha 202 j (by omega)]
    exact h5 j
theorem STa_m (h : STa m) (hf : ∀ a k, stay a k → m2 a k = m a k) : STa m2 := by
  obtain ⟨⟨h1, h2⟩, h3, ⟨h4, h5, h6⟩, ⟨h7, h8⟩, ⟨f1, f2, f3⟩, ⟨cd, ot, c1, c2, c3, c4⟩, h9⟩ := h
  refine ⟨⟨fun k hk => ?_, fun k hk => ?_⟩, ?_, ⟨?_, ?_, MyB_m h6 hf⟩, ⟨fun k => ?_, fun k => ?_⟩, ⟨?_, ?_, ?_⟩, ⟨cd, ot, c1, ?_, ?_, CDx_m c4 (fun a k g1 g2 => hf a k (by unfold stay; omega)) (fun k g1 g2 => hf 158 k (by unfold stay; omega)) (fun a k g1 g2 => hf a k (by unfold stay; omega))⟩, NCt_m h9 (fun k g => hf 73 k (by unfold stay; omega)) (fun k g1 g2 => hf 158 k (by unfold stay; omega)) (fun a k g => hf a k (by unfold stay; omega))⟩
  · rw [hf 56 k (by unfold stay; omega)]; exact h1 k hk
  · rw [hf 164 k (by unfold stay; omega)]; exact h2 k hk
  · rw [hf 68 7 (by unfold stay; omega), hf 68 8 (by unfold stay; omega)]; exact h3
  · exact LyB_c h4 (fun a k g => hf a k (by unfold stay; omega))
  · exact LyB_c h5 (fun a k g => hf a k (by unfold stay; omega))
  · rw [hf 88 k (by unfold stay; omega)]; exact h7 k
  · rw [hf 98 k (by unfold stay; omega)]; exact h8 k
  · rw [hf 50 9 (by unfold stay; omega)]; exact f1
  · rw [hf 50 9 (by unfold stay; omega), hf 158 11 (by unfold stay; omega)]; exact f2
  · rw [hf 50 9 (by unfold stay; omega), hf 50 10 (by unfold stay; omega), hf 50 11 (by unfold stay; omega), hf 158 9 (by unfold stay; omega), hf 158 10 (by unfold stay; omega)]; exact f3
  · rw [hf 50 7 (by unfold stay; omega)]; exact c2
  · rw [hf 50 8 (by unfold stay; omega)]; exact c3
theorem TXt_c (h : TXt K m) (h1 : m2 51 1 = m 51 1 ∧ m2 158 1 = m 158 1) (h2 : ∀ k, m2 52 k = m 52 k ∧ m2 159 k = m 159 k) : TXt (K + 1) m2 := by
  obtain ⟨b, n, ⟨y1, y2, y3, y4⟩, ⟨z1, z2, z3, z4⟩, hn⟩ := h
  refine ⟨b, n, ⟨by rw [h1.1]; exact y1, y2, y3, fun k hk => ?_⟩, ⟨by rw [h1.2]; exact z1, z2, z3, fun k hk => ?_⟩, by omega⟩
  · rw [(h2 k).1]; exact y4 k hk
  · rw [(h2 k).2]; exact z4 k hk
/-- nothing has changed -/
theorem INv_s (I : INv K m) : INv (K + 1) m := ⟨I.1, TXt_c I.2.1 ⟨rfl, rfl⟩ (fun _ => ⟨rfl, rfl⟩), I.2.2⟩
/-- the net's cache stays where the machine and the net stay -/
theorem WQ_c (h : WQ m) (h1 : ∀ a k, 73 ≤ a → a ≤ 82 → m2 a k = m a k) : WQ m2 := by
  have e73 : ∀ k, m2 73 k = m 73 k := fun k => h1 73 k (by omega) (by omega)
  have e74 : m2 74 = m 74 := funext fun k => h1 74 k (by omega) (by omega)
  have e75 : m2 75 = m 75 := funext fun k => h1 75 k (by omega) (by omega)
  have e77 : m2 77 = m 77 := funext fun k => h1 77 k (by omega) (by omega)
  have es : svM m2 = svM m := svM_c (fun a j g1 g2 => h1 a j (by omega) (by omega))
  unfold WQ
  rw [e73, e73, e74, e75, e77, es]
  exact h
/-- or where it is emptied -/
theorem WQ_z (h : WQ m) (h0 : m2 73 0 = m 73 0) (h1 : ∀ k, m2 74 k = m 74 k ∧ m2 75 k = m 75 k ∧ m2 77 k = m 77 k) (h6 : m2 73 6 = 0) : WQ m2 := by
  obtain ⟨q1, q2, q3, q4, -⟩ := h
  refine ⟨by rw [h0]; exact q1, fun j => ?_, fun j g1 g2 => ?_, fun j => ?_, Or.inl h6⟩
  · rw [(h1 j).1, (h1 j).2.1]; exact q2 j
  · rw [h0] at g2
    rw [(h1 j).1, (h1 j).2.1]; exact q3 j g1 g2
  · rw [(h1 j).2.2]; exact q4 j
end Ivc
