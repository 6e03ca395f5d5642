/-! NAMES TOLD TWICE AT THE TOP: the class's gather finds the first -/
section Dup2
variable {v V : Int → Int} {e : Int}
theorem cds_app {l : List (Int × Int × Int)} {x : Int × Int × Int} {r : Int × Int × Int × Bool × List Int} : cds (l ++ [x], r) = l.map (fun x => x.1) ++ [x.1] := by
  unfold cds
  rw [List.map_append]
  rfl
theorem G15N : ∀ (k : Nat) (t : xT), tsz t < k → ∀ (m : Mem) (x r : Int) (s : tS6), PN (kd m) t x r → 0 ≤ x → r ≤ e → e < m 51 5 → VC m v e → IJ m → TCs m s → (∀ j, x ≤ j → j < e → m 54 j.toNat < m 57 15) → (∀ i j, 0 ≤ i → i < j → j ≤ e → m 54 i.toNat < m 54 j.toNat) → gN t m 57 15 = (if dN v t (cds s) = -1 then m 57 15 else m 54 (dN v t (cds s)).toNat) ∧ cds (sN v t s) = cds s ++ cN v t := by
  intro k
  induction k with
  | zero => intro t ht; exact absurd ht (Nat.not_lt_zero _)
  | succ k ih =>
    intro t ht m x r s h h0 hr h5 hV hI T hs ms
    rcases inv_N h with ⟨a, b, rfl, g1, g2, g3⟩ | ⟨a, b, rfl, g1, g2, g3⟩
    · have hk := TA_kI (i := x) T.1 hV h0 (by omega) g1
      have e1 : gN (nd 45 x a b) m = gC m x := rfl
      have e2 : dN v (nd 45 x a b) (cds s) = if v x ∈ cds s then x else -1 := rfl
      refine ⟨?_, ?_⟩
      · rw [e1, e2]
        by_cases hc : v x ∈ cds s
        · rw [if_pos hc, if_neg (by omega)]
          exact nw15 (i := x) gC_15 h0 (by omega) (hs x (by omega) (by omega)) (fun z => hk.1 z hc)
        · rw [if_neg hc, if_pos rfl, gC_15, if_pos (hk.2 hc)]
      · show cds (sC v x s) = _
        exact cds_app
    · rw [tsz_nd] at ht
      have hnn := PN_n b g3
      have hk := TA_kI (i := x) T.1 hV h0 (by omega) g1
      obtain ⟨v1, v2, v3⟩ := (hV x h0 (by omega)).1 g1
      have q := Kt_gC (m := m) (i := x)
      have T1 := TC_C (i := x) hI v1 v2 T
      rw [v3] at T1
      have e1 : gN (nd 46 x a b) m = gN b (gC m x) := rfl
      have e2 : dN v (nd 46 x a b) (cds s) = if v x ∈ cds s then x else dN v b (cds s ++ [v x]) := rfl
      have e3 : cds (sC v x s) = cds s ++ [v x] := cds_app
      have e4 : sN v (nd 46 x a b) s = sN v b (sC v x s) := rfl
      have e5 : cN v (nd 46 x a b) = v x :: cN v b := rfl
      rw [e1, e2, e4, e5]
      by_cases hc : v x ∈ cds s
      · have c1 := nw15 (i := x) (gC_15 (m := m) (i := x)) h0 (by omega) (hs x (by omega) (by omega)) (fun z => hk.1 z hc)
        rw [if_pos hc, if_neg (by omega)]
        have c2 := G15Ns (e := e) (tsz b + 1) b (by omega) (gC m x) (x + 2) r g3 (by omega) hr (by rw [q.1 51 5 (by omega)]; exact h5) (fun j j1 j2 => by rw [c1, q.1 54 _ (by omega)]; exact Int.le_of_lt (ms x j h0 (by omega) (by omega)))
        refine ⟨c2.trans c1, ?_⟩
        have : ∀ (k : Nat) (t : xT), tsz t < k → ∀ (x r : Int) (s : tS6), PN (kd m) t x r → cds (sN v t s) = cds s ++ cN v t := by
          intro k
          induction k with
          | zero => intro t ht; exact absurd ht (Nat.not_lt_zero _)
          | succ k ih2 =>
            intro t ht x r s h
            rcases inv_N h with ⟨a, b, rfl, g1, g2, g3⟩ | ⟨a, b, rfl, g1, g2, g3⟩
            · exact cds_app
            · rw [tsz_nd] at ht
              show cds (sN v b (sC v x s)) = cds s ++ (v x :: cN v b)
              rw [ih2 b (by omega) _ _ (sC v x s) g3]
              have : cds (sC v x s) = cds s ++ [v x] := cds_app
              rw [this, List.append_assoc]
              rfl
        rw [this (tsz b + 1) b (by omega) _ _ _ g3, e3, List.append_assoc]
        rfl
      · have c1 : gC m x 57 15 = m 57 15 := by rw [gC_15, if_pos (hk.2 hc)]
        obtain ⟨c2, c3⟩ := ih b (by omega) (gC m x) (x + 2) r (sC v x s) (by rw [Kt_kd q]; exact g3) (by omega) hr (by rw [q.1 51 5 (by omega)]; exact h5) (VC_Kt q hV) (IJ_Kt q hI) T1 (fun j j1 j2 => by rw [c1, q.1 54 _ (by omega)]; exact hs j (by omega) j2) (fun i j i0 i1 i2 => by rw [q.1 54 _ (by omega), q.1 54 _ (by omega)]; exact ms i j i0 i1 i2)
        rw [e3, c1, q.1 54 _ (by omega)] at c2
        rw [if_neg hc]
        refine ⟨c2, ?_⟩
        rw [c3, e3, List.append_assoc]
        rfl
theorem G15 (h15 : e ≤ 1500) : ∀ (k : Nat) (t : xT), tsz t < k → ∀ (m : Mem) (p : Int) (s : tS6), PT (kd m) V t p e → 0 ≤ p → 3 * m 57 5 ≤ p → e < m 51 5 → VC m v e → IJ m → TCs m s → (∀ j, p ≤ j → j < e → m 54 j.toNat < m 57 15) → (∀ i j, 0 ≤ i → i < j → j ≤ e → m 54 i.toNat < m 54 j.toNat) → gT t m 57 15 = (if dT v t (cds s) = -1 then m 57 15 else m 54 (dT v t (cds s)).toNat) := by
  intro k
  induction k with
  | zero => intro t ht; exact absurd ht (Nat.not_lt_zero _)
  | succ k ih =>
    intro t ht m p s h h0 hp5 h5 hV hI T hs ms
    rcases inv_T h with ⟨i, a, b, rfl, g1, g2⟩ | ⟨a, b, rfl, g1, g2, g3, g4⟩ | ⟨a, b, rfl, g1, g2, g3, g4, g5, g6, g7⟩ | ⟨a, b, rfl, g1, r, g2, g3, g4⟩ | ⟨a, b, rfl, g1, g2, g3, r, g4, g5⟩
    · rfl
    · rw [tsz_nd] at ht
      have hle := PT_le (tsz b + 1) b (by omega) _ _ g4
      have hk := TA_kI (i := p + 1) T.1 hV (by omega) (by omega) g2
      obtain ⟨v1, v2, v3⟩ := (hV (p + 1) (by omega) (by omega)).1 g2
      have q1 := Kt_gV (m := m) (i := p + 1) (k := 1) (n := 1)
      have e1 : gT (nd 41 p a b) m = gT b (gV m (p + 1) 1 1) := rfl
      have e2 : dT v (nd 41 p a b) (cds s) = if v (p + 1) ∈ cds s then p + 1 else dT v b (cds s ++ [v (p + 1)]) := rfl
      have e3 : cds (sV v p s) = cds s ++ [v (p + 1)] := cds_app
      rw [e1, e2]
      by_cases hc : v (p + 1) ∈ cds s
      · have c1 := nw15 (i := p + 1) (gV_15 (m := m) (i := p + 1) (k := 1) (n := 1)) (by omega) (by omega) (hs _ (by omega) (by omega)) (fun z => hk.1 z hc)
        rw [if_pos hc, if_neg (by omega)]
        exact (G15s (e := e) (V := V) (tsz b + 1) b (by omega) (gV m (p + 1) 1 1) (p + 3) (by rw [Kt_kd q1]; exact g4) (by omega) (by rw [q1.1 51 5 (by omega)]; exact h5) (fun j j1 j2 => by rw [c1, q1.1 54 _ (by omega)]; exact Int.le_of_lt (ms _ j (by omega) (by omega) (by omega)))).trans c1
      · have c1 : gV m (p + 1) 1 1 57 15 = m 57 15 := by rw [gV_15, if_pos (hk.2 hc)]
        have c := TC_V (n := 1) (k := 1) hI v1 v2 (by decide) (by omega) T
        rw [v3] at c
        have c' : TCs (gV m (p + 1) 1 1) (sV v p s) := by
          have e9 : (s.2.2.2.2.1 || decide ((1 : Int) < 1) || decide ((500 : Int) < 1)) = s.2.2.2.2.1 := by
            rw [Bool.or_assoc]
            cases s.2.2.2.2.1 <;> rfl
          rw [e9] at c
          exact c
        have := ih b (by omega) (gV m (p + 1) 1 1) (p + 3) (sV v p s) (by rw [Kt_kd q1]; exact g4) (by omega) (by rw [gV_5 (by omega)]; omega) (by rw [q1.1 51 5 (by omega)]; exact h5) (VC_Kt q1 hV) (IJ_Kt q1 hI) c' (fun j j1 j2 => by rw [c1, q1.1 54 _ (by omega)]; exact hs j (by omega) j2) (fun i j i0 i1 i2 => by rw [q1.1 54 _ (by omega), q1.1 54 _ (by omega)]; exact ms i j i0 i1 i2)
        rw [e3, c1, q1.1 54 _ (by omega)] at this
        rw [if_neg hc]
        exact this
    · rw [tsz_nd] at ht
      have hle := PT_le (tsz b + 1) b (by omega) _ _ g7
      have hk := TA_kI (i := p + 1) T.1 hV (by omega) (by omega) g2
      obtain ⟨v1, v2, v3⟩ := (hV (p + 1) (by omega) (by omega)).1 g2
      have v4 := (hV (p + 3) (by omega) (by omega)).2 g4
      have q1 := Kt_gV (m := m) (i := p + 1) (k := 2) (n := idT m (p + 3))
      have e1 : gT (nd 42 p a b) m = gT b (gV m (p + 1) 2 (idT m (p + 3))) := rfl
      have e2 : dT v (nd 42 p a b) (cds s) = if v (p + 1) ∈ cds s then p + 1 else dT v b (cds s ++ [v (p + 1)]) := rfl
      have e3 : cds (sA v p s) = cds s ++ [v (p + 1)] := cds_app
      rw [e1, e2]
      by_cases hc : v (p + 1) ∈ cds s
      · have c1 := nw15 (i := p + 1) (gV_15 (m := m) (i := p + 1) (k := 2) (n := idT m (p + 3))) (by omega) (by omega) (hs _ (by omega) (by omega)) (fun z => hk.1 z hc)
        rw [if_pos hc, if_neg (by omega)]
        exact (G15s (e := e) (V := V) (tsz b + 1) b (by omega) (gV m (p + 1) 2 (idT m (p + 3))) (p + 6) (by rw [Kt_kd q1]; exact g7) (by omega) (by rw [q1.1 51 5 (by omega)]; exact h5) (fun j j1 j2 => by rw [c1, q1.1 54 _ (by omega)]; exact Int.le_of_lt (ms _ j (by omega) (by omega) (by omega)))).trans c1
      · have c1 : gV m (p + 1) 2 (idT m (p + 3)) 57 15 = m 57 15 := by rw [gV_15, if_pos (hk.2 hc)]
        have c := TC_V (n := idT m (p + 3)) (k := 2) hI v1 v2 (by decide) (by omega) T
        have q5 := gV_5 (m := m) (i := p + 1) (k := 2) (n := idT m (p + 3)) (by omega)
        rw [v3] at c
        rw [v4] at c q1 q5 c1 ⊢
        have := ih b (by omega) (gV m (p + 1) 2 (v (p + 3))) (p + 6) (sA v p s) (by rw [Kt_kd q1]; exact g7) (by omega) (by rw [q5]; omega) (by rw [q1.1 51 5 (by omega)]; exact h5) (VC_Kt q1 hV) (IJ_Kt q1 hI) c (fun j j1 j2 => by rw [c1, q1.1 54 _ (by omega)]; exact hs j (by omega) j2) (fun i j i0 i1 i2 => by rw [q1.1 54 _ (by omega), q1.1 54 _ (by omega)]; exact ms i j i0 i1 i2)
        rw [e3, c1, q1.1 54 _ (by omega)] at this
        rw [if_neg hc]
        exact this
    · rw [tsz_nd] at ht
      have hle := PT_le (tsz b + 1) b (by omega) _ _ g4
      have hnn := PN_n a g2
      obtain ⟨q1, q2⟩ := Kt_gN (tsz a + 1) a (by omega) m _ _ g2
      have c := TC_N (tsz a + 1) a (by omega) m (p + 1) r s g2 (by omega) (by omega) hV hI T
      obtain ⟨d1, d2⟩ := G15N (e := e) (v := v) (tsz a + 1) a (by omega) m (p + 1) r s g2 (by omega) (by omega) h5 hV hI T (fun j j1 j2 => hs j (by omega) j2) ms
      have e1 : gT (nd 43 p a b) m = gT b (gN a m) := rfl
      have e2 : dT v (nd 43 p a b) (cds s) = if dN v a (cds s) = -1 then dT v b (cds s ++ cN v a) else dN v a (cds s) := rfl
      rw [e1, e2]
      by_cases hc : dN v a (cds s) = -1
      · rw [if_pos hc] at d1 ⊢
        have := ih b (by omega) (gN a m) (r + 1) (sN v a s) (by rw [Kt_kd q1]; exact g4) (by omega) (by rw [q2 5 (by decide) (by decide)]; omega) (by rw [q1.1 51 5 (by omega)]; exact h5) (VC_Kt q1 hV) (IJ_Kt q1 hI) c (fun j j1 j2 => by rw [d1, q1.1 54 _ (by omega)]; exact hs j (by omega) j2) (fun i j i0 i1 i2 => by rw [q1.1 54 _ (by omega), q1.1 54 _ (by omega)]; exact ms i j i0 i1 i2)
        rw [d2, d1, q1.1 54 _ (by omega)] at this
        exact this
      · rw [if_neg hc] at d1 ⊢
        have hr := dN_r (v := v) (tsz a + 1) a (by omega) (cds s) _ _ g2
        rw [if_neg hc]
        exact (G15s (e := e) (V := V) (tsz b + 1) b (by omega) (gN a m) (r + 1) (by rw [Kt_kd q1]; exact g4) (by omega) (by rw [q1.1 51 5 (by omega)]; exact h5) (fun j j1 j2 => by rw [d1, q1.1 54 _ (by omega)]; exact Int.le_of_lt (ms _ j (by omega) (by omega) (by omega)))).trans d1
    · rw [tsz_nd] at ht
      have hle := PT_le (tsz b + 1) b (by omega) _ _ g5
      have hph := PH_lt g4
      have hk := TA_kI (i := p + 1) T.1 hV (by omega) (by omega) g2
      obtain ⟨v1, v2, v3⟩ := (hV (p + 1) (by omega) (by omega)).1 g2
      have w1 := Kt_gH (m := m) (x := p + 1) (n := hN a)
      obtain ⟨q1, q2⟩ := Kt_gRq (m := gH m (p + 1) (hN a)) g4
      have q3 := Kt_tr w1 q1
      have e1 : gT (nd 44 p a b) m = gT b (gRq a (gH m (p + 1) (hN a))) := rfl
      have e2 : dT v (nd 44 p a b) (cds s) = if v (p + 1) ∈ cds s then p + 1 else dT v b (cds s ++ [v (p + 1)]) := rfl
      have e3 : cds (sP v p (hN a) s) = cds s ++ [v (p + 1)] := cds_app
      rw [e1, e2]
      by_cases hc : v (p + 1) ∈ cds s
      · have c1 := nw15 (i := p + 1) (gH_15 (m := m) (x := p + 1) (n := hN a)) (by omega) (by omega) (hs _ (by omega) (by omega)) (fun z => hk.1 z hc)
        have c2 := (q2 15 (by decide)).trans c1
        rw [if_pos hc, if_neg (by omega)]
        exact (G15s (e := e) (V := V) (tsz b + 1) b (by omega) (gRq a (gH m (p + 1) (hN a))) r (by rw [Kt_kd q3]; exact g5) (by omega) (by rw [q3.1 51 5 (by omega)]; exact h5) (fun j j1 j2 => by rw [c2, q3.1 54 _ (by omega)]; exact Int.le_of_lt (ms _ j (by omega) (by omega) (by omega)))).trans c2
      · have c1 : gH m (p + 1) (hN a) 57 15 = m 57 15 := by rw [gH_15, if_pos (hk.2 hc)]
        have c2 := (q2 15 (by decide)).trans c1
        have c := TC_H (n := hN a) hI v1 v2 T
        rw [v3] at c
        have c' := TC_Rq g4 c
        have := ih b (by omega) (gRq a (gH m (p + 1) (hN a))) r (sP v p (hN a) s) (by rw [Kt_kd q3]; exact g5) (by omega) (by rw [q2 5 (by decide), gH_57 5 (by decide) (by decide) (by decide)]; omega) (by rw [q3.1 51 5 (by omega)]; exact h5) (VC_Kt q3 hV) (IJ_Kt q3 hI) c' (fun j j1 j2 => by rw [c2, q3.1 54 _ (by omega)]; exact hs j (by omega) j2) (fun i j i0 i1 i2 => by rw [q3.1 54 _ (by omega), q3.1 54 _ (by omega)]; exact ms i j i0 i1 i2)
        rw [e3, c2, q3.1 54 _ (by omega)] at this
        rw [if_neg hc]
        exact this
end Dup2
