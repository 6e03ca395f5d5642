/-! THE WORDS OF CLASS AND MODEL ARE THE SAME -/
theorem W_st {W W2 : Nat → Int} {A : Int} {n : Nat} (h0 : 0 ≤ A) (h : W A.toNat = W2 A.toNat) (hr : ∀ k : Nat, A + 1 ≤ k → (k : Int) < A + 1 + n → W k = W2 k) : ∀ k : Nat, A ≤ k → (k : Int) < A + ((n + 1 : Nat) : Int) → W k = W2 k := fun k a b => by
  by_cases c : k = A.toNat
  · rw [c, h]
  · exact hr k (by omega) (by omega)
theorem finW_c {P N P2 N2 : Int → Int} {A : Int} {i : It} (hP : i.2.1 = 1 ∨ i.2.1 = 2 ∨ i.2.1 = 3 → P i.2.2 = P2 i.2.2) (hN : i.2.1 = 4 ∨ i.2.1 = 5 → N i.2.2 = N2 i.2.2) : finW P N A i = finW P2 N2 A i := by
  unfold finW
  by_cases c1 : i.2.1 = 1
  · rw [if_pos c1, if_pos c1, hP (Or.inl c1)]
  · rw [if_neg c1, if_neg c1]
    by_cases c2 : i.2.1 = 2
    · rw [if_pos c2, if_pos c2, hP (Or.inr (Or.inl c2))]
    · rw [if_neg c2, if_neg c2]
      by_cases c3 : i.2.1 = 3
      · rw [if_pos c3, if_pos c3, hP (Or.inr (Or.inr c3))]
      · rw [if_neg c3, if_neg c3]
        by_cases c4 : i.2.1 = 4
        · rw [if_pos c4, if_pos c4, hN (Or.inl c4)]
        · rw [if_neg c4, if_neg c4]
          by_cases c5 : i.2.1 = 5
          · rw [if_pos c5, if_pos c5, hN (Or.inr c5)]
          · rw [if_neg c5, if_neg c5]
theorem WdOk_e {P N P2 N2 : Int → Int} {W W2 : Nat → Int} {l : List It} (hw : Wf l) : ∀ A : Int, 0 ≤ A → WdOk P N W l A → WdOk P2 N2 W2 l A → (∀ i, i ∈ l → isG i → P i.2.2 = P2 i.2.2) → (∀ i, i ∈ l → i.2.1 = 4 → N i.2.2 = N2 i.2.2) → ∀ k : Nat, A ≤ k → (k : Int) < A + (l.length : Int) → W k = W2 k := by
  have one : ∀ (i : It) (l : List It) (A : Int), 0 ≤ A → (WdOk P N W l (A + 1) → WdOk P2 N2 W2 l (A + 1) → ∀ k : Nat, A + 1 ≤ k → (k : Int) < A + 1 + (l.length : Int) → W k = W2 k) → (i.2.1 = 1 ∨ i.2.1 = 2 ∨ i.2.1 = 3 → P i.2.2 = P2 i.2.2) → (i.2.1 = 4 ∨ i.2.1 = 5 → N i.2.2 = N2 i.2.2) → WdOk P N W (i :: l) A → WdOk P2 N2 W2 (i :: l) A → ∀ k : Nat, A ≤ k → (k : Int) < A + ((i :: l).length : Int) → W k = W2 k := fun i l A h0 ih hP hN w1 w2 k a b => by
    refine W_st (n := l.length) h0 ?_ (ih w1.2 w2.2) k a b
    rw [w1.1, w2.1]
    exact finW_c hP hN
  refine Wf_ind (Q := fun l => ∀ A : Int, 0 ≤ A → WdOk P N W l A → WdOk P2 N2 W2 l A → (∀ i, i ∈ l → isG i → P i.2.2 = P2 i.2.2) → (∀ i, i ∈ l → i.2.1 = 4 → N i.2.2 = N2 i.2.2) → ∀ k : Nat, A ≤ k → (k : Int) < A + (l.length : Int) → W k = W2 k) ?_ ?_ ?_ ?_ ?_ hw
  · intro A h0 _ _ _ _ k a b
    have : (k : Int) < A + 0 := b
    omega
  · intro w l _ ih A h0 w1 w2 hP hN
    exact one _ l A h0 (fun u1 u2 => ih (A + 1) (by omega) u1 u2 (fun i hi => hP i (List.mem_cons_of_mem _ hi)) (fun i hi => hN i (List.mem_cons_of_mem _ hi))) (fun h => by have h : (0 : Int) = 1 ∨ (0 : Int) = 2 ∨ (0 : Int) = 3 := h; omega) (fun h => by have h : (0 : Int) = 4 ∨ (0 : Int) = 5 := h; omega) w1 w2
  · intro lk l _ ih A h0 w1 w2 hP hN
    exact one _ l A h0 (fun u1 u2 => ih (A + 1) (by omega) u1 u2 (fun i hi => hP i (List.mem_cons_of_mem _ hi)) (fun i hi => hN i (List.mem_cons_of_mem _ hi))) (fun _ => hP _ (List.mem_cons_self ..) (Or.inl rfl)) (fun h => by have h : (1 : Int) = 4 ∨ (1 : Int) = 5 := h; omega) w1 w2
  · intro lk l _ ih A h0 w1 w2 hP hN
    have hp := hP _ (List.mem_cons_self ..) (Or.inr rfl)
    refine one _ _ A h0 (fun u1 u2 => one _ l (A + 1) (by omega) (fun v1 v2 => ih (A + 1 + 1) (by omega) v1 v2 (fun i hi => hP i (List.mem_cons_of_mem _ (List.mem_cons_of_mem _ hi))) (fun i hi => hN i (List.mem_cons_of_mem _ (List.mem_cons_of_mem _ hi)))) (fun _ => hp) (fun h => by have h : (3 : Int) = 4 ∨ (3 : Int) = 5 := h; omega) u1 u2) (fun _ => hp) (fun h => by have h : (2 : Int) = 4 ∨ (2 : Int) = 5 := h; omega) w1 w2
  · intro r t l _ _ _ ih A h0 w1 w2 hP hN
    have hp := hN _ (List.mem_cons_self ..) rfl
    refine one _ _ A h0 (fun u1 u2 => one _ l (A + 1) (by omega) (fun v1 v2 => ih (A + 1 + 1) (by omega) v1 v2 (fun i hi => hP i (List.mem_cons_of_mem _ (List.mem_cons_of_mem _ hi))) (fun i hi => hN i (List.mem_cons_of_mem _ (List.mem_cons_of_mem _ hi)))) (fun h => by have h : (5 : Int) = 1 ∨ (5 : Int) = 2 ∨ (5 : Int) = 3 := h; omega) (fun _ => hp) u1 u2) (fun h => by have h : (4 : Int) = 1 ∨ (4 : Int) = 2 ∨ (4 : Int) = 3 := h; omega) (fun _ => hp) w1 w2
theorem Wf_hd {e : Int} : Wf (hdI e) := by
  unfold hdI
  exact Wf_app Wf_L (Wf_app (Wf_N (by decide) (by decide)) (Wf_app Wf_L (Wf_app (Wf_N (by decide) (by decide)) (Wf_app Wf_L (Wf_app Wf_L (Wf_app (Wf_m _) (Wf_m _)))))))
theorem Wf_ml {M : Mem} {n : Nat} (hO : OK0 M n) : ∀ i, i ≤ n → Wf (mlI M 0 i)
  | 0 => fun _ => Wf_nil
  | i + 1 => fun hi => by
    obtain ⟨o1, o2, o3, o4, o5, o6⟩ := hO i (by omega)
    show Wf (mlI M 0 i ++ dM M 0 (ngo (mlI M 0 i)) i)
    exact Wf_app (Wf_ml hO i (by omega)) (itO_w o1 o4)
theorem Wf_A {M : Mem} {n : Nat} {E : Nat → Int} {e : Int} (hO : OK0 M n) : Wf (itA M E e n) := by
  unfold itA
  exact Wf_app Wf_hd (Wf_ml (M := fv E M) hO n (Nat.le_refl _))
/-- class and model: the words that both laid -/
theorem words_eq {m M m0 : Mem} {cd n v : Nat} {e sz : Int} {T : mSt} {Q Q2 W : Nat → Int} (hc : cd = 83 ∨ cd = 93) (K : LM M e n) (hb : b01 (eEnd m0 M e n)) (hsz : sz = 82 + ((mlI (fv (eEnd m0 M e n) M) 0 n).length : Int)) (hn0 : m cd 0 = (n : Int)) (hQ2 : ∀ q, q < n → Q2 q = 82 + ((mlI (fv (eEnd m0 M e n) M) 0 q).length : Int)) (h5 : m 57 5 = (v : Int)) (h8 : m 57 8 = vsm M v) (h62 : ∀ k, k < v → m 62 k = vsm M k) (hNt : ∀ i, i ∈ itA M (eEnd m0 M e n) e n → i.2.1 = 4 → (0 ≤ i.2.2 ∧ i.2.2 < n) ∨ i.2.2 = -1 ∨ (0 ≤ -10 - i.2.2 ∧ -10 - i.2.2 < v)) (hW : WdOk (Pw (uv cd 1 sz m) cd Q2) (Nw (uv cd 1 sz m) cd Q2) W (itA M (eEnd m0 M e n) e n) 0) : ∀ k : Nat, (k : Int) < sz → W k = patN (ntv (yEnd T Q m0 M e n v)) (itA M (eEnd m0 M e n) e n) 0 (patG (gP (yEnd T Q m0 M e n v)) (itA M (eEnd m0 M e n) e n) 0 (mI (itA M (eEnd m0 M e n) e n) (rs T)).2.1) k := by
  obtain ⟨hO, hn, hn3, h0, hX, hB, hL⟩ := K
  have hlen : ((itA M (eEnd m0 M e n) e n).length : Int) = sz := by
    unfold itA
    rw [List.length_append, hdI_l, hsz]
    omega
  have y180 : ∀ t : Int, 0 ≤ t → t < n → yEnd T Q m0 M e n v 180 t.toNat = 82 + ((mlI (fv (eEnd m0 M e n) M) 0 t.toNat).length : Int) := fun t a b => by
    show plq 82 (fv (eEnd m0 M e n) M) 0 Q n t.toNat = _
    unfold plq
    rw [if_pos (by omega)]
  have hL2 := hL (eEnd m0 M e n) hb
  have y74 : lyd T Q M (eEnd m0 M e n) e n 158 74 = sz := by
    have z := (mI_n (itA M (eEnd m0 M e n) e n) (rs T)).1
    have z2 : (rs T).1 = 0 := rfl
    rw [z2, Int.zero_add, hlen] at z
    exact z
  have hyd : yEnd T Q m0 M e n v = vvw (vsm M v) (vfn (lyd T Q M (eEnd m0 M e n) e n) (lyd T Q M (eEnd m0 M e n) e n 169) v) (lyd T Q M (eEnd m0 M e n) e n) := rfl
  have hok := mI_ok (itA M (eEnd m0 M e n) e n) (rs T) (Int.le_refl 0) (Int.le_refl 0) (Int.le_refl 0)
  have pw : ∀ t : Int, 0 ≤ t → t < n → Pw (uv cd 1 sz m) cd Q2 t = 82 + ((mlI (fv (eEnd m0 M e n) M) 0 t.toNat).length : Int) := fun t a b => by
    have e1 : Pw (uv cd 1 sz m) cd Q2 t = if t < 0 ∨ m cd 0 ≤ t then 0 else Q2 t.toNat := by
      unfold Pw PLc
      rcases hc with rfl | rfl <;> rfl
    rw [e1, if_neg (by rw [hn0]; omega), hQ2 _ (by omega)]
  intro k hk
  refine WdOk_e (Wf_A hO) 0 (Int.le_refl 0) hW (pat_ok (P := gP (yEnd T Q m0 M e n v)) (N := ntv (yEnd T Q m0 M e n v)) (Wf_A hO) 0 _ (Int.le_refl 0) hok.1) (fun i hi hg => ?_) (fun i hi hg => ?_) k (by omega) (by rw [hlen]; omega)
  · obtain ⟨a, b⟩ := hL2 i hi hg
    rw [pw _ a b]
    unfold gP
    rw [y180 _ a b]
  · skip
    have e12 : qv cd Q2 0 0 (uv cd 1 sz m) cd 12 = sz := by rcases hc with rfl | rfl <;> rfl
    have e578 : qv cd Q2 0 0 (uv cd 1 sz m) 57 8 = m 57 8 := by rcases hc with rfl | rfl <;> rfl
    rcases hNt i hi hg with ⟨a, b⟩ | a | ⟨a, b⟩
    · have e1 : Nw (uv cd 1 sz m) cd Q2 i.2.2 = Pw (uv cd 1 sz m) cd Q2 i.2.2 := by
        unfold Nw nC
        rw [if_pos a]
        rfl
      rw [e1, pw _ a b]
      unfold ntv
      rw [if_pos a, y180 _ a b]
    · have e1 : Nw (uv cd 1 sz m) cd Q2 i.2.2 = sz + m 57 8 := by
        unfold Nw nC
        rw [if_neg (by omega), if_pos a, e12, e578]
      rw [e1, h8]
      unfold ntv
      rw [if_neg (by omega), if_pos a, hyd]
      show sz + vsm M v = lyd T Q M (eEnd m0 M e n) e n 158 74 + vsm M v
      rw [y74]
    · have e1 : Nw (uv cd 1 sz m) cd Q2 i.2.2 = sz + m 62 (-10 - i.2.2).toNat := by
        unfold Nw nC
        rw [if_neg (by omega), if_neg (by omega), e12]
        have e2 : OFc (qv cd Q2 0 0 (uv cd 1 sz m)) (-10 - i.2.2) = if -10 - i.2.2 < 0 ∨ m 57 5 ≤ -10 - i.2.2 then 0 else m 62 (-10 - i.2.2).toNat := by
          unfold OFc
          rcases hc with rfl | rfl <;> rfl
        rw [e2, if_neg (by rw [h5]; omega)]
      rw [e1, h62 _ (by omega)]
      unfold ntv
      rw [if_neg (by omega), if_neg (by omega), hyd]
      show sz + vsm M (-10 - i.2.2).toNat = vfn (lyd T Q M (eEnd m0 M e n) e n) (lyd T Q M (eEnd m0 M e n) e n 169) v (-10 - i.2.2).toNat
      unfold vfn
      rw [if_pos (by omega), y74, vs_ly]
