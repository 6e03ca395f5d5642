/-! BITS OF GOES, AND WHAT IS FILLED IN LATER -/
theorem fB_t : ∀ j : Nat, j < 4 → ∀ g : Nat, g < 2 → (0 ≤ ior (j : Int) (ishl 1 (g : Int)) ∧ ior (j : Int) (ishl 1 (g : Int)) < 4) ∧ ∀ b : Nat, b < 2 → fB (ior (j : Int) (ishl 1 (g : Int))) (b : Int) = (fB (j : Int) (b : Int) || decide (b = g)) := by decide +kernel
theorem fB_v : ∀ j : Nat, j < 4 → (j : Int) = (if fB (j : Int) 0 = true then 1 else 0) + (if fB (j : Int) 1 = true then 2 else 0) := by decide +kernel
theorem jN_b {P : Int → Int} : ∀ (l : List It) (A : Int) (g : Nat) (j : Int), g + ngo l ≤ 2 → 0 ≤ j → j < 4 → (0 ≤ jN P l A (g : Int) j ∧ jN P l A (g : Int) j < 4) ∧ ∀ b : Nat, b < 2 → fB (jN P l A (g : Int) j) (b : Int) = (fB j (b : Int) || (decide (g ≤ b ∧ b < g + ngo l) && goX P l A (b - g)))
  | [], A, g, j => fun _ h0 h1 => by
    refine ⟨⟨h0, h1⟩, fun b _ => ?_⟩
    show fB j (b : Int) = (fB j (b : Int) || (decide (g ≤ b ∧ b < g + 0) && false))
    rw [Bool.and_false, Bool.or_false]
  | i :: l, A, g, j => fun hg h0 h1 => by
    have en : ngo (i :: l) = (if isG i then 1 else 0) + ngo l := rfl
    have eg : ∀ q, goX P (i :: l) A q = if isG i then (match q with | 0 => decide (i.2.1 = 1 ∧ outR (P i.2.2) A) | q + 1 => goX P l (A + 1) q) else goX P l (A + 1) q := fun q => rfl
    rw [en] at hg
    rw [en]
    have ej : jN P (i :: l) A (g : Int) j = jN P l (A + 1) (if isG i then (g : Int) + 1 else (g : Int)) (if i.2.1 = 1 ∧ outR (P i.2.2) A then ior j (ishl 1 (g : Int)) else j) := rfl
    rw [ej]
    by_cases h : isG i
    · rw [if_pos h] at hg
      rw [if_pos h, if_pos h]
      have hgt := (fB_t j.toNat (by omega) g (by omega))
      rw [show ((j.toNat : Nat) : Int) = j by omega] at hgt
      have key : ∀ j2 : Int, 0 ≤ j2 → j2 < 4 → (∀ b : Nat, b < 2 → fB j2 (b : Int) = (fB j (b : Int) || (decide (b = g) && decide (i.2.1 = 1 ∧ outR (P i.2.2) A)))) → (0 ≤ jN P l (A + 1) ((g : Int) + 1) j2 ∧ jN P l (A + 1) ((g : Int) + 1) j2 < 4) ∧ ∀ b : Nat, b < 2 → fB (jN P l (A + 1) ((g : Int) + 1) j2) (b : Int) = (fB j (b : Int) || (decide (g ≤ b ∧ b < g + (1 + ngo l)) && goX P (i :: l) A (b - g))) := fun j2 a1 a2 a3 => by
        have ih := jN_b (P := P) l (A + 1) (g + 1) j2 (by omega) a1 a2
        rw [show ((g + 1 : Nat) : Int) = (g : Int) + 1 by omega] at ih
        refine ⟨ih.1, fun b hb => ?_⟩
        rw [ih.2 b hb, a3 b hb, eg, if_pos h]
        by_cases c : b = g
        · subst c
          rw [Nat.sub_self, decide_eq_true rfl, decide_eq_false (by omega : ¬ (b + 1 ≤ b ∧ b < b + 1 + ngo l)), decide_eq_true (by omega : b ≤ b ∧ b < b + (1 + ngo l)), Bool.false_and, Bool.or_false, Bool.true_and]
        · rw [decide_eq_false c, Bool.false_and, Bool.or_false]
          by_cases c2 : g + 1 ≤ b ∧ b < g + 1 + ngo l
          · rw [decide_eq_true c2, decide_eq_true (by omega : g ≤ b ∧ b < g + (1 + ngo l)), show b - g = (b - (g + 1)) + 1 by omega]
          · rw [decide_eq_false c2, decide_eq_false (by omega : ¬ (g ≤ b ∧ b < g + (1 + ngo l))), Bool.false_and, Bool.false_and]
      by_cases c : i.2.1 = 1 ∧ outR (P i.2.2) A
      · rw [if_pos c]
        refine key _ hgt.1.1 hgt.1.2 (fun b hb => ?_)
        rw [hgt.2 b hb, decide_eq_true c, Bool.and_true]
      · rw [if_neg c]
        refine key _ h0 h1 (fun b hb => ?_)
        rw [decide_eq_false c, Bool.and_false, Bool.or_false]
    · rw [if_neg h] at hg
      rw [if_neg h, if_neg h, if_neg (fun z => h (Or.inl z.1)), Nat.zero_add]
      have ih := jN_b (P := P) l (A + 1) g j (by omega) h0 h1
      refine ⟨ih.1, fun b hb => ?_⟩
      rw [ih.2 b hb, eg, if_neg h]
/-- goX, out of what the model told -/
theorem goX_k {P : Int → Int} {F : Nat → Bool} {ga gt : Nat → Int} : ∀ (l : List It) (A : Int) (k : Nat), GoOk ga gt l A (k : Int) → kO F l k → ∀ g, g < ngo l → goX P l A g = decide (F (k + g) = false ∧ outR (P (gt (k + g))) (ga (k + g)))
  | [], A, k => fun _ _ g hg => absurd hg (Nat.not_lt_zero _)
  | i :: l, A, k => fun hG hK g hg => by
    have en : ngo (i :: l) = (if isG i then 1 else 0) + ngo l := rfl
    have eg : ∀ q, goX P (i :: l) A q = if isG i then (match q with | 0 => decide (i.2.1 = 1 ∧ outR (P i.2.2) A) | q + 1 => goX P l (A + 1) q) else goX P l (A + 1) q := fun q => rfl
    obtain ⟨G1, G2⟩ := hG
    obtain ⟨K1, K2⟩ := hK
    rw [en] at hg
    rw [eg]
    by_cases h : isG i
    · rw [if_pos h] at hg G2 K2
      rw [if_pos h]
      obtain ⟨u, v⟩ := G1 h
      rw [Int.toNat_natCast] at u v
      cases g with
      | zero =>
        rw [Nat.add_zero, u, v]
        show decide (i.2.1 = 1 ∧ outR (P i.2.2) A) = _
        have hk := K1 h
        have e : (i.2.1 = 1) ↔ (F k = false) := by
          rcases h with h | h
          · refine ⟨fun _ => ?_, fun _ => h⟩
            cases e : F k with
            | false => rfl
            | true => have := hk.mpr e; omega
          · refine ⟨fun z => by omega, fun z => ?_⟩
            have := hk.mp h
            rw [z] at this
            exact Bool.noConfusion this
        exact decide_eq_decide.mpr (and_congr e Iff.rfl)
      | succ g =>
        have ih := goX_k (P := P) (F := F) (ga := ga) (gt := gt) l (A + 1) (k + 1) G2 K2 g (by omega)
        rw [show k + 1 + g = k + (g + 1) by omega] at ih
        exact ih
    · rw [if_neg h] at hg G2 K2
      rw [if_neg h]
      exact goX_k (P := P) (F := F) (ga := ga) (gt := gt) l (A + 1) k G2 K2 g (by omega)
/-! what is filled in -/
def filC (C : Nat → Int) (A v : Int) : Nat → Int := vput (vput C A.toNat (ior (C A.toNat) (v % 256))) (A + 1).toNat (ior (vput C A.toNat (ior (C A.toNat) (v % 256)) (A + 1).toNat) (v / 256 % 256))
/-- the goes -/
def patG (P : Int → Int) : List It → Int → (Nat → Int) → (Nat → Int)
  | [], _, C => C
  | i :: l, A, C => patG P l (A + 1) (if i.2.1 = 1 then vput C A.toNat (ior (C A.toNat) ((P i.2.2 - A - 1) % 4096)) else if i.2.1 = 2 then filC C A (P i.2.2) else C)
/-- the notes -/
def patN (N : Int → Int) : List It → Int → (Nat → Int) → (Nat → Int)
  | [], _, C => C
  | i :: l, A, C => patN N l (A + 1) (if i.2.1 = 4 then filC C A (N i.2.2) else C)
theorem filC_o {C : Nat → Int} {A v : Int} {k : Nat} (h0 : 0 ≤ A) (h : (k : Int) < A ∨ A + 2 ≤ k) : filC C A v k = C k := by
  unfold filC vput
  rw [if_neg (by omega), if_neg (by omega)]
theorem filC_1 {C : Nat → Int} {A v : Int} (h0 : 0 ≤ A) : filC C A v A.toNat = ior (C A.toNat) (v % 256) := by
  unfold filC vput
  rw [if_neg (by omega), if_pos rfl]
theorem filC_2 {C : Nat → Int} {A v : Int} (h0 : 0 ≤ A) : filC C A v (A + 1).toNat = ior (C (A + 1).toNat) (v / 256 % 256) := by
  unfold filC
  rw [show vput C A.toNat (ior (C A.toNat) (v % 256)) (A + 1).toNat = C (A + 1).toNat from by unfold vput; rw [if_neg (by omega)]]
  unfold vput
  rw [if_pos rfl]
/-- patG leaves what is before A -/
theorem patG_o {P : Int → Int} : ∀ (l : List It) (A : Int) (C : Nat → Int) (k : Nat), 0 ≤ A → (k : Int) < A → patG P l A C k = C k
  | [], A, C, k => fun _ _ => rfl
  | i :: l, A, C, k => fun h0 h => by
    refine (patG_o l (A + 1) _ k (by omega) (by omega)).trans ?_
    split
    · unfold vput
      rw [if_neg (by omega)]
    · split
      · exact filC_o h0 (Or.inl h)
      · rfl
theorem patN_o {N : Int → Int} : ∀ (l : List It) (A : Int) (C : Nat → Int) (k : Nat), 0 ≤ A → (k : Int) < A → patN N l A C k = C k
  | [], A, C, k => fun _ _ => rfl
  | i :: l, A, C, k => fun h0 h => by
    refine (patN_o l (A + 1) _ k (by omega) (by omega)).trans ?_
    split
    · exact filC_o h0 (Or.inl h)
    · rfl
/-- patN at a place depends on what stands there, and only there -/
theorem patN_c {N : Int → Int} : ∀ (l : List It) (A : Int) (C D : Nat → Int) (k : Nat), 0 ≤ A → C k = D k → patN N l A C k = patN N l A D k
  | [], A, C, D, k => fun _ h => h
  | i :: l, A, C, D, k => fun h0 h => by
    refine patN_c l (A + 1) _ _ k (by omega) ?_
    split
    · by_cases c1 : k = A.toNat
      · subst c1
        rw [filC_1 h0, filC_1 h0, h]
      · by_cases c2 : k = (A + 1).toNat
        · subst c2
          rw [filC_2 h0, filC_2 h0, h]
        · rw [filC_o h0 (by omega), filC_o h0 (by omega), h]
    · exact h
theorem ior_g1 {v : Int} : ior (wrd 14 0 0 0) (v % 4096) = wrd 14 0 0 0 + v % 4096 := ior_add 12 (by decide) (a := 14) (by decide) (by omega) (by omega) (by omega)
theorem ior_68 {o r v : Int} (ho : o = 6 ∨ o = 7) (h0 : 0 ≤ r) (h1 : r < 8) : ior (wrd o r 0 0) (v % 256) = wrd o r 0 0 + v % 256 := by
  have z := ior_add 8 (by decide) (a := o * 16 + r * 2) (y := v % 256) (by omega) (by omega) (by omega) (by omega)
  have e : (o * 16 + r * 2) * ((2 ^ 8 : Nat) : Int) = wrd o r 0 0 := by
    unfold wrd
    omega
  rw [e] at z
  exact z
theorem CdOk_fr {C D : Nat → Int} : ∀ (l : List It) (A : Int), 0 ≤ A → (∀ k : Nat, A ≤ k → D k = C k) → CdOk C l A → CdOk D l A
  | [], A => fun _ _ _ => trivial
  | i :: l, A => fun h0 hk h => ⟨(hk A.toNat (by omega)).trans h.1, CdOk_fr l (A + 1) (by omega) (fun k a => hk k (by omega)) h.2⟩
/-- behind both, the words are whole -/
theorem pat_ok {P N : Int → Int} {l : List It} (hw : Wf l) : ∀ (A : Int) (C : Nat → Int), 0 ≤ A → CdOk C l A → WdOk P N (patN N l A (patG P l A C)) l A := by
  refine Wf_ind (Q := fun l => ∀ (A : Int) (C : Nat → Int), 0 ≤ A → CdOk C l A → WdOk P N (patN N l A (patG P l A C)) l A) ?_ ?_ ?_ ?_ ?_ hw
  · exact fun _ _ _ _ => trivial
  · intro w l _ ih A C h0 hC
    refine ⟨?_, ih (A + 1) C (by omega) hC.2⟩
    show patN N l (A + 1) (patG P l (A + 1) C) A.toNat = finW P N A (lit w)
    rw [patN_o l (A + 1) _ _ (by omega) (by omega), patG_o l (A + 1) _ _ (by omega) (by omega), hC.1, finW_l]
    rfl
  · intro lk l _ ih A C h0 hC
    have hC2 : CdOk (vput C A.toNat (ior (C A.toNat) ((P lk - A - 1) % 4096))) l (A + 1) := CdOk_fr l (A + 1) (by omega) (fun k hk => by unfold vput; rw [if_neg (by omega)]) hC.2
    refine ⟨?_, ih (A + 1) _ (by omega) hC2⟩
    show patN N l (A + 1) (patG P l (A + 1) (vput C A.toNat (ior (C A.toNat) ((P lk - A - 1) % 4096)))) A.toNat = finW P N A (wrd 14 0 0 0, 1, lk)
    rw [patN_o l (A + 1) _ _ (by omega) (by omega), patG_o l (A + 1) _ _ (by omega) (by omega), hC.1]
    unfold vput
    rw [if_pos rfl, ior_g1]
    rfl
  · intro lk l _ ih A C h0 hC
    have hC2 : CdOk (filC C A (P lk)) l (A + 1 + 1) := CdOk_fr l (A + 1 + 1) (by omega) (fun k hk => filC_o h0 (Or.inr (by omega))) hC.2.2
    refine ⟨?_, ?_, ih (A + 1 + 1) _ (by omega) hC2⟩
    · show patN N l (A + 1 + 1) (patG P l (A + 1 + 1) (filC C A (P lk))) A.toNat = finW P N A (wrd 6 5 0 0, 2, lk)
      rw [patN_o l (A + 1 + 1) _ _ (by omega) (by omega), patG_o l (A + 1 + 1) _ _ (by omega) (by omega), filC_1 h0, hC.1, ior_68 (Or.inl rfl) (by decide) (by decide)]
      rfl
    · show patN N l (A + 1 + 1) (patG P l (A + 1 + 1) (filC C A (P lk))) (A + 1).toNat = finW P N (A + 1) (wrd 7 5 0 0, 3, lk)
      rw [patN_o l (A + 1 + 1) _ _ (by omega) (by omega), patG_o l (A + 1 + 1) _ _ (by omega) (by omega), filC_2 h0, hC.2.1, ior_68 (Or.inr rfl) (by decide) (by decide)]
      rfl
  · intro r t l r0 r1 _ ih A C h0 hC
    have hK : ∀ k : Nat, A ≤ k → (k : Int) < A + 2 → patN N l (A + 1 + 1) (filC (patG P l (A + 1 + 1) C) A (N t)) k = filC C A (N t) k := fun k k0 k1 => by
      rw [patN_o l (A + 1 + 1) _ _ (by omega) (by omega)]
      by_cases c1 : k = A.toNat
      · subst c1
        rw [filC_1 h0, filC_1 h0, patG_o l (A + 1 + 1) _ _ (by omega) (by omega)]
      · have c2 : k = (A + 1).toNat := by omega
        subst c2
        rw [filC_2 h0, filC_2 h0, patG_o l (A + 1 + 1) _ _ (by omega) (by omega)]
    have h3 := ih (A + 1 + 1) C (by omega) hC.2.2
    refine ⟨?_, ?_, WdOk_fr l (A + 1 + 1) (by omega) (fun k k0 _ => ?_) h3⟩
    · refine (hK A.toNat (by omega) (by omega)).trans ?_
      rw [filC_1 h0, hC.1, ior_68 (Or.inl rfl) r0 r1]
      rfl
    · refine (hK (A + 1).toNat (by omega) (by omega)).trans ?_
      rw [filC_2 h0, hC.2.1, ior_68 (Or.inr rfl) r0 r1]
      rfl
    · exact patN_c l (A + 1 + 1) _ _ k (by omega) (filC_o h0 (Or.inr (by omega)))
