/-! CLASS AND MODEL, THE SECOND WALK: the whens of a try in the relation -/
/-- the first when whose name is no condition or stands a second time; -1 without one -/
def bwT (mc : Mem) : xT → List Int → Int
  | .tag k (.nest i (.append _ b)) => fun w => match k with
    | 31 => if kI mc (idT mc (i + 1)) = 3 ∧ (∀ j ∈ w, idT mc j ≠ idT mc (i + 1)) then bwT mc b (w ++ [i + 1]) else i + 1
    | _ => -1
  | _ => fun _ => -1
section Dsr
variable {mc m : Mem} {s : xSt} {y : yS} {σ : Int → Int} {D H p e : Int} {G : Prop}
theorem bl_bl {i : Int} : bl mc i (bl mc i s) = bl mc i s := by
  unfold bl
  simp only []
  by_cases h : (0 ≤ i ∧ i < mc 51 5) ∧ mc 54 i.toNat < s.2.2.2.1
  · rw [if_pos h, if_neg (fun z => by omega)]
  · rw [if_neg h, if_neg h]
theorem dupB_b {i : Int} : ∀ (w : List Int) (s : xSt), dupB mc i w (bl mc i s) = bl mc i s
  | [], _ => rfl
  | j :: w, s => by
    unfold dupB
    split
    · rw [bl_bl]; exact dupB_b w s
    · exact dupB_b w s
theorem dupB_eq {i : Int} : ∀ (w : List Int) (s : xSt), dupB mc i w s = if (∀ j ∈ w, idT mc j ≠ idT mc i) then s else bl mc i s
  | [], s => by
    rw [if_pos (fun j hj => absurd hj (List.not_mem_nil))]
    rfl
  | j :: w, s => by
    unfold dupB
    by_cases h : idT mc j = idT mc i
    · rw [if_pos h, if_neg (fun z => z j (List.mem_cons_self ..) h)]
      exact dupB_b w s
    · rw [if_neg h, dupB_eq w s]
      by_cases h2 : ∀ j ∈ w, idT mc j ≠ idT mc i
      · rw [if_pos h2, if_pos (fun k hk => by
          rcases List.mem_cons.1 hk with rfl | hk
          · exact h
          · exact h2 k hk)]
      · rw [if_neg h2, if_neg (fun z => h2 (fun k hk => z k (List.mem_cons_of_mem _ hk)))]
theorem RXF_em {o a a' l lm u : Int} {z : Bool} (hl : (s.1.length : Int) = m 158 41) (hn : s.2.2.2.1 = D) (hb : m 158 15 = 0) (h41 : m 158 41 < 3000) : RX (em o a l s) (emG m o a' lm u z) σ D False := by
  have e0 : emG m o a' lm u z = emF m o a' lm u z := if_pos hb
  have hln : s.1.length < 3000 := by omega
  have q0 := (getD_ap (l := s.1) (x := (o, a, l)) (k := 0) hln).1
  refine ⟨?_, fun g => g.elim, fun g => g.elim, hn, fun g => g.elim⟩
  rw [e0, emF_41, ← hl]
  show ((ap s.1 (o, a, l)).length : Int) = _
  rw [q0]
  omega
/-- told a fault, not yet come to it -/
theorem SR_pend {s' : xSt} {D1 : Int} (R : SR mc s y m σ D G H p) (h1 : s'.1 = s.1) (h2 : s'.2.2.2.1 = D1) : SR mc s' y m σ D1 False H p := by
  have X := R.rx
  exact ⟨⟨by rw [h1]; exact X.len, fun g => g.elim, fun g => g.elim, h2, fun g => g.elim⟩, by rw [h1]; exact R.lk, R.la, R.lb, R.lj, R.ls, R.s1, R.hd, R.hl, R.ln, R.l0, R.lh, R.lm, R.ld, R.lx, R.pr, R.wh⟩
theorem bl_1 {i : Int} : (bl mc i s).1 = s.1 ∧ (bl mc i s).2.1 = s.2.1 := ⟨rfl, rfl⟩
theorem dupB_1 {i : Int} {w : List Int} : (dupB mc i w s).1 = s.1 ∧ (dupB mc i w s).2.1 = s.2.1 := by
  rw [dupB_eq]
  split <;> exact ⟨rfl, rfl⟩
theorem SR_dsF {V : Int → Int} : ∀ (k : Nat) (t : xT), tsz t < k → ∀ (dep p q : Int), P (kd mc) V t 11 dep p q → 0 ≤ p → q ≤ e → ∀ (w : List Int) (l : Int) (s : xSt) (m : Mem) (p0 : Int), SR mc s y m σ D False H p0 → s.2.1 = 0 → m 158 15 = 0 → m 158 41 + nW t < 2999 → (∀ j, l ≤ j → j < l + nW t → j < (y.1.length : Int)) → (∀ j, p ≤ j → j < q → D ≤ mc 54 j.toNat) → SR mc (wWs mc t w l s) y (dsM t l m) σ D False H p0 ∧ (wWs mc t w l s).2.1 = 0 ∧ dsM t l m 158 15 = 0 ∧ dsM t l m 158 41 ≤ m 158 41 + nW t ∧ FE m (dsM t l m) := by
  intro k
  induction k with
  | zero => intro t ht; exact absurd ht (Nat.not_lt_zero _)
  | succ k ih =>
    intro t ht dep p q h hp hq w l s m p0 R hs0 hb h41 hl hD
    rcases inv_11 h with ⟨i, a, b, rfl, g1, g2, g3, r, g4, g5⟩ | ⟨i, a, b, rfl, hpq, ho⟩
    · rw [tsz_nd] at ht
      have l1 := P_le a g4
      have l2 := P_le b g5
      have e1 : nW (nd 31 i a b) = nW b + 1 := rfl
      have e2 : wWs mc (nd 31 i a b) w l s = wWs mc b (w ++ [i + 1]) (l + 1) (dupB mc (i + 1) w (em 24 (nmI mc (idT mc (i + 1))) l (us mc (i + 1) 3 s))) := rfl
      have e3 : dsM (nd 31 i a b) l m = dsM b (l + 1) (emG m 24 (dgX m (i + 1)) l 0 false) := rfl
      rw [e1] at h41 hl
      rw [e2, e3, e1]
      have hn : (us mc (i + 1) 3 s).2.2.2.1 = D := (us_nf (by rw [R.rx.nf]; exact hD (i + 1) (by omega) (by omega))).trans R.rx.nf
      have g41 := (Fm_emG (m := m) (o := 24) (a := dgX m (i + 1)) (l := l) (u := 0) (z := false) (Or.inl hb))
      have g41b := g41.2.2.2.1
      have X : RX (em 24 (nmI mc (idT mc (i + 1))) l (us mc (i + 1) 3 s)) (emG m 24 (dgX m (i + 1)) l 0 false) σ D False := RXF_em (by rw [us_1.1]; exact R.rx.len) hn hb (by omega)
      have R1 : SR mc (em 24 (nmI mc (idT mc (i + 1))) l (us mc (i + 1) 3 s)) y (emG m 24 (dgX m (i + 1)) l 0 false) σ D False H p0 := SR_Fm R g41 (Int.le_refl _) X (LkB_em (by rw [us_1.1]; exact R.lk) (hl l (Int.le_refl _) (by omega)))
      have R2 := SR_pend (s' := dupB mc (i + 1) w (em 24 (nmI mc (idT mc (i + 1))) l (us mc (i + 1) 3 s))) (D1 := D) R1 dupB_1.1 (dupB_nf (hD (i + 1) (by omega) (by omega)) w _ X.nf)
      have hz : (dupB mc (i + 1) w (em 24 (nmI mc (idT mc (i + 1))) l (us mc (i + 1) 3 s))).2.1 = 0 := by
        rw [dupB_1.2]
        show w32 ((us mc (i + 1) 3 s).2.1 + 0) = 0
        rw [us_1.2, hs0]
        decide
      obtain ⟨A1, A2, A3, A4, A5⟩ := ih b (by omega) dep r q g5 (by omega) hq (w ++ [i + 1]) (l + 1) _ (emG m 24 (dgX m (i + 1)) l 0 false) p0 R2 hz (emG_ok hb) (by omega) (fun j j1 j2 => hl j (by omega) (by omega)) (fun j j1 j2 => hD j (by omega) j2)
      exact ⟨A1, A2, A3, by omega, FE_tr FE_emG A5⟩
    · exact ⟨R, hs0, hb, by show m 158 41 ≤ m 158 41 + (0 : Nat); omega, FE_rf⟩
theorem SR_ds {V : Int → Int} : ∀ (k : Nat) (t : xT), tsz t < k → ∀ (dep p q : Int), P (kd mc) V t 11 dep p q → 0 ≤ p → q ≤ e → ∀ (w : List Int) (l : Int) (s : xSt) (m : Mem) (p0 : Int), SE mc m e → SR mc s y m σ D G H p0 → s.2.1 = 0 → m 158 15 = 0 → m 158 41 + nW t < 2999 → (∀ j, l ≤ j → j < l + nW t → j < (y.1.length : Int) ∧ σ j = j) → (∀ j, 0 ≤ j → j < q → mc 54 j.toNat < D) → (wWs mc t w l s).2.1 = 0 ∧ dsM t l m 158 15 = 0 ∧ dsM t l m 158 41 ≤ m 158 41 + nW t ∧ FE m (dsM t l m) ∧ ((bwT mc t w = -1 ∧ SR mc (wWs mc t w l s) y (dsM t l m) σ D G H p0) ∨ (p < bwT mc t w ∧ bwT mc t w < q ∧ SR mc (wWs mc t w l s) y (dsM t l m) σ (mc 54 (bwT mc t w).toNat) False H p0)) := by
  intro k
  induction k with
  | zero => intro t ht; exact absurd ht (Nat.not_lt_zero _)
  | succ k ih =>
    intro t ht dep p q h hp hq w l s m p0 S R hs0 hb h41 hl hD
    rcases inv_11 h with ⟨i, a, b, rfl, g1, g2, g3, r, g4, g5⟩ | ⟨i, a, b, rfl, hpq, ho⟩
    · rw [tsz_nd] at ht
      have l1 := P_le a g4
      have l2 := P_le b g5
      subst g3
      have e1 : nW (nd 31 i a b) = nW b + 1 := rfl
      have e2 : wWs mc (nd 31 i a b) w l s = wWs mc b (w ++ [i + 1]) (l + 1) (dupB mc (i + 1) w (em 24 (nmI mc (idT mc (i + 1))) l (us mc (i + 1) 3 s))) := rfl
      have e3 : dsM (nd 31 i a b) l m = dsM b (l + 1) (emG m 24 (dgX m (i + 1)) l 0 false) := rfl
      have e4 : bwT mc (nd 31 i a b) w = if kI mc (idT mc (i + 1)) = 3 ∧ (∀ j ∈ w, idT mc j ≠ idT mc (i + 1)) then bwT mc b (w ++ [i + 1]) else i + 1 := rfl
      rw [e1] at h41 hl
      rw [e2, e3, e1, e4]
      have g41 := (Fm_emG (m := m) (o := 24) (a := dgX m (i + 1)) (l := l) (u := 0) (z := false) (Or.inl hb))
      have g41b := g41.2.2.2.1
      obtain ⟨hl1, hl2⟩ := hl l (Int.le_refl _) (by omega)
      by_cases hg : kI mc (idT mc (i + 1)) = 3 ∧ (∀ j ∈ w, idT mc j ≠ idT mc (i + 1))
      · rw [if_pos hg]
        have u1 : us mc (i + 1) 3 s = s := if_pos hg.1
        obtain ⟨n1, n2, n3, n4, n5, n6, n7⟩ := S.nm (i + 1) (by omega) (by omega) g2
        have hk := (n1 3 (by decide)).1 hg.1
        have u2 := n2 hk.1
        have ed : dgX m (i + 1) = nmI mc (idT mc (i + 1)) := by
          unfold dgX
          rw [if_neg (by have := hk.1; omega), u2]
        have ud : dupB mc (i + 1) w (em 24 (nmI mc (idT mc (i + 1))) l (us mc (i + 1) 3 s)) = em 24 (nmI mc (idT mc (i + 1))) l s := by
          rw [dupB_eq, if_pos hg.2, u1]
        rw [ud]
        have R1 := SR_em (o := 24) (a := dgX m (i + 1)) (l := l) (lm := l) (u := 0) R hb (by omega) rfl hl2.symm hl1
        have e5 : em 24 (dgX m (i + 1)) l s = em 24 (nmI mc (idT mc (i + 1))) l s := by rw [ed]
        rw [e5] at R1
        have hz : (em 24 (nmI mc (idT mc (i + 1))) l s).2.1 = 0 := by
          show w32 (s.2.1 + 0) = 0
          rw [hs0]
          decide
        obtain ⟨A2, A3, A4, A5, A1⟩ := ih b (by omega) dep r q g5 (by omega) hq (w ++ [i + 1]) (l + 1) _ (emG m 24 (dgX m (i + 1)) l 0 false) p0 (SE_FS S FS_emG) R1 hz (emG_ok hb) (by omega) (fun j j1 j2 => hl j (by omega) (by omega)) hD
        refine ⟨A2, A3, by omega, FE_tr FE_emG A5, ?_⟩
        rcases A1 with A1 | ⟨B1, B2, B3⟩
        · exact Or.inl A1
        · exact Or.inr ⟨by omega, B2, B3⟩
      · rw [if_neg hg]
        have hDi := hD (i + 1) (by omega) (by omega)
        have hbl : ∀ s1 : xSt, s1.2.2.2.1 = D → (bl mc (i + 1) s1).2.2.2.1 = mc 54 (i + 1).toNat := fun s1 h1 => by
          show (if (0 ≤ i + 1 ∧ i + 1 < mc 51 5) ∧ mc 54 (i + 1).toNat < s1.2.2.2.1 then mc 54 (i + 1).toNat else s1.2.2.2.1) = _
          have := S.e5
          rw [if_pos ⟨by omega, by omega⟩]
        have hn : (dupB mc (i + 1) w (em 24 (nmI mc (idT mc (i + 1))) l (us mc (i + 1) 3 s))).2.2.2.1 = mc 54 (i + 1).toNat := by
          by_cases hk : kI mc (idT mc (i + 1)) = 3
          · have u1 : us mc (i + 1) 3 s = s := if_pos hk
            rw [u1, dupB_eq, if_neg (fun z => hg ⟨hk, z⟩)]
            exact hbl _ R.rx.nf
          · have u1 : us mc (i + 1) 3 s = bl mc (i + 1) s := if_neg hk
            rw [u1]
            exact dupB_nf (Int.le_refl _) w _ (hbl s R.rx.nf)
        have R0 := SR_pend (s' := s) (D1 := D) R rfl R.rx.nf
        have X : RX (em 24 (nmI mc (idT mc (i + 1))) l s) (emG m 24 (dgX m (i + 1)) l 0 false) σ D False := RXF_em R.rx.len R.rx.nf hb (by omega)
        have R1 : SR mc (em 24 (nmI mc (idT mc (i + 1))) l s) y (emG m 24 (dgX m (i + 1)) l 0 false) σ D False H p0 := SR_Fm R0 g41 (Int.le_refl _) X (LkB_em R.lk hl1)
        have R2 := SR_pend (s' := dupB mc (i + 1) w (em 24 (nmI mc (idT mc (i + 1))) l (us mc (i + 1) 3 s))) (D1 := mc 54 (i + 1).toNat) R1 (by
          rw [dupB_1.1]
          show ap (us mc (i + 1) 3 s).1 _ = ap s.1 _
          rw [us_1.1]) hn
        have hz : (dupB mc (i + 1) w (em 24 (nmI mc (idT mc (i + 1))) l (us mc (i + 1) 3 s))).2.1 = 0 := by
          rw [dupB_1.2]
          show w32 ((us mc (i + 1) 3 s).2.1 + 0) = 0
          rw [us_1.2, hs0]
          decide
        obtain ⟨A1, A2, A3, A4, A5⟩ := SR_dsF (tsz b + 1) b (by omega) dep r q g5 (by omega) hq (w ++ [i + 1]) (l + 1) _ (emG m 24 (dgX m (i + 1)) l 0 false) p0 R2 hz (emG_ok hb) (by omega) (fun j j1 j2 => (hl j (by omega) (by omega)).1) (fun j j1 j2 => S.mo _ _ (by omega) (by omega) (by omega))
        exact ⟨A2, A3, by omega, FE_tr FE_emG A5, Or.inr ⟨by omega, by omega, A1⟩⟩
    · exact ⟨hs0, hb, by show m 158 41 ≤ m 158 41 + (0 : Nat); omega, FE_rf, Or.inl ⟨rfl, R⟩⟩
end Dsr
