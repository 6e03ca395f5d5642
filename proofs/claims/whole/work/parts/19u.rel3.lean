/-! CLASS AND MODEL, THE SECOND WALK: expressions tell the same -/
def OkB (mc m : Mem) (s : xSt) (σ : Int → Int) (D : Int) (G : Prop) (p q : Int) : Prop := (m 158 15 = 0 ∧ RX s m σ D G) ∨ Br mc m s p q
section Oks
variable {mc m : Mem} {s : xSt} {σ : Int → Int} {D p q p' q' e : Int} {G : Prop}
theorem OkB_le (B : OkB mc m s σ D G p q) (h1 : p' ≤ p) (h2 : q ≤ q') : OkB mc m s σ D G p' q' := by
  rcases B with B | B
  · exact Or.inl B
  · exact Or.inr (Br_le B h1 h2)
theorem OkB_em {o a l u lm : Int} (B : OkB mc m s σ D G p q) (hn : m 158 41 < 3000) (hu : psh o = u) (hl : lm = σ l) : OkB mc (emG m o a lm u false) (em o a l s) σ D G p q := by
  rcases B with B | B
  · left
    refine ⟨?_, RX_em B.2 B.1 hn hu hl⟩
    have : emG m o a lm u false = emF m o a lm u false := if_pos B.1
    rw [this, emF_y 15 (by decide) (by decide) (by decide)]
    exact B.1
  · exact Or.inr (Br_em B)
/-- a name that must be of kind k, at i -/
theorem us_nm {i k : Int} (E : EE mc m σ e) (R : RX s m σ D G) (hi : 0 ≤ i) (hie : i < e) (hk2 : kd mc i = 2) (hk : k ≠ 0) (hD : mc 54 i.toNat < D) (h : ¬ isK m (vlT m i) k) : Br mc (bkF m (plT m i)) (us mc i k s) i (i + 1) := by
  have h1 := ((E.nm i hi hie hk2).1 k hk)
  have e1 : us mc i k s = bl mc i s := if_neg (fun z => h (h1.1 z))
  rw [e1]
  refine ⟨rfl, rfl, i, by omega, by omega, ?_, ?_⟩
  · show plT m i = _
    exact (E.pl i hi (by omega)).1.symm
  · show (if (0 ≤ i ∧ i < mc 51 5) ∧ mc 54 i.toNat < s.2.2.2.1 then mc 54 i.toNat else s.2.2.2.1) = _
    have := E.e5
    rw [if_pos ⟨by omega, by rw [R.nf]; exact hD⟩]
theorem us_ok {i k : Int} (E : EE mc m σ e) (hi : 0 ≤ i) (hie : i < e) (hk2 : kd mc i = 2) (hk : k ≠ 0) (h : isK m (vlT m i) k) : us mc i k s = s ∧ nmI mc (idT mc i) = inX m (vlT m i) := by
  have h1 := (E.nm i hi hie hk2)
  exact ⟨if_pos ((h1.1 k hk).2 h), h1.2.1 h.1⟩
theorem nl_k {c k : Int} (E : EE mc m σ e) (h : isK m c k) : lcK m c < 0 := by
  by_cases hl : 0 ≤ lcK m c
  · have := (E.nl c hl).1
    have := h.1
    omega
  · omega
/-- a call: its count, its order -/
theorem RX_call {m1 : Mem} {i n w lm : Int} (E : EE mc m σ e) (f : Fm m m1 q) (R : RX s m1 σ D G) (hb : m1 158 15 = 0) (h41 : m1 158 41 < 3000) (hi : 0 ≤ i) (hie : i < e) (hk2 : kd mc i = 2) (h : isK m (vlT m i) 4) (hw : w = inX m (vlT m i)) (hl : lm = σ (mc 68 5)) : (emG (thM m1 i w n) 17 w lm (w32 (1 - thM m1 i w n 170 w.toNat)) false) 158 15 = 0 ∧ RX (em 17 w (mc 68 5) (cl mc i n s)) (emG (thM m1 i w n) 17 w lm (w32 (1 - thM m1 i w n 170 w.toNat)) false) σ D G := by
  subst hw
  have h1 := (E.nm i hi hie hk2)
  have hp := h1.2.2.2 h
  have e170 : m1 170 (inX m (vlT m i)).toNat = m 170 (inX m (vlT m i)).toNat := f.1 170 _ (by omega)
  have hpl := E.pl i hi (by omega)
  have hplc : plc mc i = mc 54 i.toNat := by
    have := E.e5
    exact if_neg (by omega)
  have hpl1 : plT m1 i = mc 54 i.toNat := by rw [plT_Fm f]; exact hpl.1.symm
  have b2 : thM m1 i (inX m (vlT m i)) n 158 15 = 0 := by
    unfold thM
    split
    · exact hb
    · exact hb
  have c41 : thM m1 i (inX m (vlT m i)) n 158 41 = m1 158 41 := by
    unfold thM
    split <;> rfl
  have c170 : thM m1 i (inX m (vlT m i)) n 170 (inX m (vlT m i)).toNat = m 170 (inX m (vlT m i)).toNat := by
    rw [← e170]
    unfold thM
    split <;> rfl
  have c52 : thM m1 i (inX m (vlT m i)) n 158 52 = m1 158 52 := by
    unfold thM
    split <;> rfl
  have hcl : (cl mc i n s).2.2.2.2 = if n = m 170 (inX m (vlT m i)).toNat then s.2.2.2.2 else imin s.2.2.2.2 (mc 54 i.toNat) := by
    show (if n = prm mc (nmI mc (idT mc i)) then s.2.2.2.2 else imin s.2.2.2.2 (plc mc i)) = _
    rw [hp, hplc]
  have RYc : RY (cl mc i n s) (thM m1 i (inX m (vlT m i)) n) σ D G := by
    by_cases hn : n = m 170 (inX m (vlT m i)).toNat
    · have e1 : thM m1 i (inX m (vlT m i)) n = m1 := if_neg (fun z => z.2 (by rw [e170]; exact hn))
      rw [if_pos hn] at hcl
      rw [e1]
      exact ⟨R.len, R.ops, fun g z => (R.pus g (hcl.symm.trans z)).2, R.nf, by rw [hcl]; exact R.cf⟩
    · have e1 : thM m1 i (inX m (vlT m i)) n = put m1 158 16 (if m1 158 16 < 0 ∨ plT m1 i < m1 158 16 then plT m1 i else m1 158 16) := if_pos ⟨hb, by rw [e170]; exact hn⟩
      rw [if_neg hn] at hcl
      rw [e1]
      have hm : imin s.2.2.2.2 (mc 54 i.toNat) ≤ mc 54 i.toNat := by unfold imin; split <;> omega
      refine ⟨R.len, R.ops, fun g z => ?_, R.nf, fun g => ?_⟩
      · rw [hcl] at z
        omega
      · rw [hcl, hpl1]
        show (if m1 158 16 < 0 ∨ mc 54 i.toNat < m1 158 16 then mc 54 i.toNat else m1 158 16) < 0 ∧ _ ∨ 0 ≤ (if m1 158 16 < 0 ∨ mc 54 i.toNat < m1 158 16 then mc 54 i.toNat else m1 158 16) ∧ (if m1 158 16 < 0 ∨ mc 54 i.toNat < m1 158 16 then mc 54 i.toNat else m1 158 16) = _ ∧ _
        have hr := R.cf g
        right
        unfold imin
        by_cases z1 : m1 158 16 < 0 ∨ mc 54 i.toNat < m1 158 16
        · rw [if_pos z1]
          split <;> omega
        · rw [if_neg z1]
          split <;> omega
  refine ⟨?_, RY_em RYc b2 (by omega) (fun g hc => ?_) hl⟩
  · have : ∀ x y, emG (thM m1 i (inX m (vlT m i)) n) 17 x y (w32 (1 - thM m1 i (inX m (vlT m i)) n 170 (inX m (vlT m i)).toNat)) false = emF (thM m1 i (inX m (vlT m i)) n) 17 x y (w32 (1 - thM m1 i (inX m (vlT m i)) n 170 (inX m (vlT m i)).toNat)) false := fun _ _ => if_pos b2
    rw [this, emF_y 15 (by decide) (by decide) (by decide)]
    exact b2
  · rw [hcl] at hc
    by_cases hn : n = m 170 (inX m (vlT m i)).toNat
    · rw [if_pos hn] at hc
      have hpu := (R.pus g hc).1
      rw [c52, c170]
      show w32 (w32 (s.2.1 - n) + 1) = _
      rw [w32_l, w32_s, hpu, hn]
      congr 1
      omega
    · rw [if_neg hn] at hc
      have hm : imin s.2.2.2.2 (mc 54 i.toNat) ≤ mc 54 i.toNat := by unfold imin; split <;> omega
      omega
end Oks
/-- expressions: class and model tell the same orders, or break at the same name -/
theorem RE {mc : Mem} {σ : Int → Int} {D e : Int} {G : Prop} {V : Int → Int} : ∀ (k : Nat) (t : xT), tsz t < k → ∀ (nt : Nat) (dep p q : Int), nt ≤ 7 → P (kd mc) V t nt dep p q → 0 ≤ p → q ≤ e → ∀ (s : xSt) (m : Mem), EE mc m σ e → RX s m σ D G → m 158 15 = 0 → m 158 41 + (q - p) < 3000 → (∀ j, 0 ≤ j → j < q → mc 54 j.toNat < D) → OkB mc (eM t m) (xE mc t s) σ D G p q := by
  intro k
  induction k with
  | zero => intro t ht; exact absurd ht (Nat.not_lt_zero _)
  | succ k ih =>
    intro t ht nt dep p q hnt h hp hq s m E R hb h41 hD
    have l0 := P_le t h
    have seq : ∀ (b : xT) (n2 : Nat) (d2 r1 r2 q2 : Int) (m1 : Mem) (s1 : xSt) (n : Int), tsz b < k → n2 ≤ 7 → P (kd mc) V b n2 d2 r2 q2 → OkB mc m1 s1 σ D G p r1 → Fm m m1 n → m 158 41 + n + (q2 - r2) < 3000 → r1 ≤ r2 → p ≤ r2 → q2 ≤ q → OkB mc (eM b m1) (xE mc b s1) σ D G p q2 := by
      intro b n2 d2 r1 r2 q2 m1 s1 n tb h2 gb B f hn e1 e2 e3
      rcases B with ⟨b1, B⟩ | B
      · have f4 := f.2.2.2.1
        exact OkB_le (ih b tb n2 d2 r2 q2 h2 gb (by omega) (by omega) s1 m1 (EE_Fm E f) B b1 (by omega) (fun j j1 j2 => hD j j1 (by omega))) (by omega) (by omega)
      · exact Or.inr (Br_xE E.mo B hp h2 gb e1 (by omega))
    have fst : ∀ (a : xT) (n1 : Nat) (d1 p1 r1 : Int), tsz a < k → n1 ≤ 7 → P (kd mc) V a n1 d1 p1 r1 → p ≤ p1 → r1 ≤ q → OkB mc (eM a m) (xE mc a s) σ D G p r1 := by
      intro a n1 d1 p1 r1 ta h1 ga e1 e2
      have := P_le a ga
      exact OkB_le (ih a ta n1 d1 p1 r1 h1 ga (by omega) (by omega) s m E R hb (by omega) (fun j j1 j2 => hD j j1 (by omega))) e1 (by omega)
    have fm : ∀ (a : xT) (n1 : Nat) (d1 p1 r1 : Int), n1 ≤ 7 → P (kd mc) V a n1 d1 p1 r1 → ∀ m : Mem, (m 158 15 = 0 ∨ m 158 15 = 1) → Fm m (eM a m) (r1 - p1) := fun a n1 d1 p1 r1 h1 ga m hm => Fm_eM (tsz a + 1) a (by omega) n1 d1 p1 r1 h1 ga m hm
    have hc : nt = 0 ∨ nt = 1 ∨ nt = 2 ∨ nt = 3 ∨ nt = 4 ∨ nt = 5 ∨ nt = 6 ∨ nt = 7 := by omega
    rcases hc with rfl | rfl | rfl | rfl | rfl | rfl | rfl | rfl
    · rcases inv_0 h with ⟨i, a, b, rfl, g1, g2⟩ | ⟨i, a, b, rfl, r, g1, g2, g3, g4⟩
      · rw [tsz_nd] at ht
        exact fst a _ _ _ _ (by omega) (by decide) g1 (by omega) (by omega)
      · rw [tsz_nd] at ht
        have := P_le a g1
        have := P_le b g4
        have f1 := fm a _ _ _ _ (by decide) g1 m (Or.inl hb)
        have f2 := fm b _ _ _ _ (by decide) g4 _ f1.2.2.2.2
        have B := seq b _ _ _ _ _ _ _ _ (by omega) (by decide) g4 (fst a _ _ _ _ (by omega) (by decide) g1 (by omega) (by omega)) f1 (by omega) (by omega) (by omega) (by omega)
        exact OkB_em B (by have := (Fm_tr f1 f2).2.2.2.1; omega) (rfl) E.s1.symm
    · obtain ⟨i, a, b, rfl, r, g1, g2⟩ := inv_1 h
      rw [tsz_nd] at ht
      have := P_le a g1
      have := P_le b g2
      have f1 := fm a _ _ _ _ (by decide) g1 m (Or.inl hb)
      exact seq b _ _ _ _ _ _ _ _ (by omega) (by decide) g2 (fst a _ _ _ _ (by omega) (by decide) g1 (by omega) (by omega)) f1 (by omega) (by omega) (by omega) (by omega)
    · rcases inv_2 h with ⟨i, a, b, rfl, g0, r, g1, g2⟩ | ⟨i, a, b, rfl, g1, g2⟩
      · rw [tsz_nd] at ht
        have := P_le a g1
        have := P_le b g2
        have f1 := fm a _ _ _ _ (by decide) g1 m (Or.inl hb)
        have B := OkB_em (o := i) (a := 0) (u := -1) (lm := eM a m 158 48) (l := mc 68 5) (fst a _ _ _ _ (by omega) (by decide) g1 (by omega) (by omega)) (by have := f1.2.2.2.1; omega) (by rcases g0 with ⟨rfl, -⟩ | ⟨rfl, -⟩ <;> rfl) (EE_Fm E f1).hd
        have f2 := Fm_tr f1 (Fm_emH (o := i) (a := 0) (u := -1) f1.2.2.2.2)
        exact seq b _ _ _ _ _ _ _ _ (by omega) (by decide) g2 B f2 (by omega) (by omega) (by omega) (by omega)
      · exact Or.inl ⟨hb, R⟩
    · obtain ⟨i, a, b, rfl, r, g1, g2⟩ := inv_3 h
      rw [tsz_nd] at ht
      have := P_le a g1
      have := P_le b g2
      have f1 := fm a _ _ _ _ (by decide) g1 m (Or.inl hb)
      exact seq b _ _ _ _ _ _ _ _ (by omega) (by decide) g2 (fst a _ _ _ _ (by omega) (by decide) g1 (by omega) (by omega)) f1 (by omega) (by omega) (by omega) (by omega)
    · rcases inv_4 h with ⟨i, a, b, rfl, g0, r, g1, g2⟩ | ⟨i, a, b, rfl, g1, g2⟩
      · rw [tsz_nd] at ht
        have := P_le a g1
        have := P_le b g2
        have f1 := fm a _ _ _ _ (by decide) g1 m (Or.inl hb)
        have B := OkB_em (o := i) (a := 0) (u := -1) (lm := eM a m 158 48) (l := mc 68 5) (fst a _ _ _ _ (by omega) (by decide) g1 (by omega) (by omega)) (by have := f1.2.2.2.1; omega) (by rcases g0 with ⟨rfl, -⟩ | ⟨rfl, -⟩ | ⟨rfl, -⟩ <;> rfl) (EE_Fm E f1).hd
        have f2 := Fm_tr f1 (Fm_emH (o := i) (a := 0) (u := -1) f1.2.2.2.2)
        exact seq b _ _ _ _ _ _ _ _ (by omega) (by decide) g2 B f2 (by omega) (by omega) (by omega) (by omega)
      · exact Or.inl ⟨hb, R⟩
    · rcases inv_5 h with ⟨i, a, b, rfl, g1, g2, g3⟩ | ⟨i, a, b, rfl, g1, g2, r, g3, g4, g5⟩ | ⟨i, a, b, rfl, g1, g2, g3⟩ | ⟨i, a, b, rfl, g1, g2⟩ | ⟨i, a, b, rfl, g1, g2, g3, g4, g5⟩ | ⟨i, a, b, rfl, g1, g2, g3, g4, r, g5, g6, g7⟩ | ⟨i, a, b, rfl, g1, g2, g3⟩
      · rw [tsz_nd] at ht
        have := P_le a g3
        have f1 := fm a _ _ _ _ (by decide) g3 m (Or.inl hb)
        exact OkB_em (fst a _ _ _ _ (by omega) (by decide) g3 (by omega) (by omega)) (by have := f1.2.2.2.1; omega) rfl (EE_Fm E f1).hd
      · rw [tsz_nd] at ht
        have := P_le a g3
        exact OkB_le (fst a _ _ _ _ (by omega) (by decide) g3 (by omega) (by omega)) (by omega) (by omega)
      · subst g3
        have := OkB_em (o := 1) (a := vlT m i) (u := 1) (lm := -1) (l := -1) (mc := mc) (p := i) (q := q) (Or.inl ⟨hb, R⟩) (by omega) rfl E.s1.symm
        show OkB mc _ (em 1 (idT mc i) (-1) s) _ _ _ _ _
        rw [E.nb i hp (by omega) g1]
        exact this
      · exact OkB_em (o := 19) (a := 0) (u := 1) (lm := m 158 48) (l := mc 68 5) (mc := mc) (Or.inl ⟨hb, R⟩) (by omega) rfl E.hd
      · subst g5
        rw [x_13]
        have hN := E.nm i hp (by omega) g1
        rw [hN.2.2.1]
        have ee : eM (nd 13 i a b) m = emG (plM m i) (if 1000 ≤ plV m i then 4 else 2) (plV m i % 1000) (-1) 1 false := rfl
        rw [ee]
        by_cases hl : 0 ≤ lcK m (vlT m i)
        · have e1 : plM m i = m := by unfold plM; rw [if_pos hb, if_pos hl]
          have e2 : plV m i = lcK m (vlT m i) := by unfold plV; rw [if_pos hb, if_pos hl]
          have h3 := (E.nl _ hl).2
          rw [if_neg (by omega), e1, e2, if_neg (by omega), Int.emod_eq_of_lt hl (by omega)]
          exact OkB_em (o := 2) (u := 1) (lm := -1) (l := -1) (mc := mc) (Or.inl ⟨hb, R⟩) (by omega) rfl E.s1.symm
        · have hl1 : lcK m (vlT m i) = -1 := by
            rcases fst1_b (f := m 172) (c := vlT m i) (m 158 30).toNat 0 with g | ⟨g, -, -⟩
            · exact g
            · exact absurd g hl
          rw [if_pos hl1]
          by_cases hk : isK m (vlT m i) 1
          · have e1 : plM m i = m := by unfold plM; rw [if_pos hb, if_neg hl, if_pos hk]
            have e2 : plV m i = 1000 + inX m (vlT m i) := by unfold plV; rw [if_pos hb, if_neg hl, if_pos hk]
            have h3 := E.v1 _ hk
            obtain ⟨u1, u2⟩ := us_ok (s := s) E hp (by omega) g1 (by decide) hk
            have e3 : (1000 + inX m (vlT m i)) % 1000 = inX m (vlT m i) := by omega
            rw [e1, e2, if_pos (by omega), u1, u2, e3]
            exact OkB_em (o := 4) (u := 1) (lm := -1) (l := -1) (mc := mc) (Or.inl ⟨hb, R⟩) (by omega) rfl E.s1.symm
          · have e1 : plM m i = bkF m (plT m i) := by unfold plM; rw [if_pos hb, if_neg hl, if_neg hk]
            rw [e1]
            have B := us_nm E R hp (by omega) g1 (by decide) (hD i hp (by omega)) hk
            exact Or.inr (Br_em (Br_le B (by omega) (by omega)))
      · subst g4
        rw [tsz_nd] at ht
        have := P_le a g5
        have ee : eM (nd 14 i a b) m = emH (eM a (arM m i)) 6 (arV m i) 0 := rfl
        rw [x_14, ee]
        by_cases hk : isK m (vlT m i) 2
        · have hl := nl_k E hk
          have e1 : arM m i = m := by unfold arM; rw [if_pos hb, if_pos ⟨hk, hl⟩]
          have e2 : arV m i = inX m (vlT m i) := by unfold arV; rw [if_pos hb, if_pos ⟨hk, hl⟩]
          obtain ⟨u1, u2⟩ := us_ok (s := s) E hp (by omega) g1 (by decide) hk
          rw [e1, e2, u1, u2]
          have f1 := fm a _ _ _ _ (by decide) g5 m (Or.inl hb)
          exact OkB_em (OkB_le (fst a _ _ _ _ (by omega) (by decide) g5 (by omega) (by omega)) (by omega) (by omega)) (by have := f1.2.2.2.1; omega) rfl (EE_Fm E f1).hd
        · have e1 : arM m i = bkF m (plT m i) := by unfold arM; rw [if_pos hb, if_neg (fun z => hk z.1)]
          have B := us_nm E R hp (by omega) g1 (by decide) (hD i hp (by omega)) hk
          rw [e1]
          exact Or.inr (Br_em (Br_le (Br_xE E.mo B hp (by decide) g5 (by omega) (by omega)) (by omega) (by omega)))
      · subst g2
        rw [tsz_nd] at ht
        have := P_le a g3
        have l5 := P_lt5 h
        have ee : eM (nd 15 i a b) m = caM i a m := rfl
        rw [x_15, ee]
        unfold caM
        by_cases hk : isK m (vlT m i) 4
        · have hl := nl_k E hk
          obtain ⟨e1, e2⟩ := clM_y hb ⟨hk, hl⟩
          obtain ⟨u1, u2⟩ := us_ok (s := s) E hp (by omega) g1 (by decide) hk
          rw [e1, e2, u1, u2]
          have f1 := fm a _ _ _ _ (by decide) g3 m (Or.inl hb)
          rcases fst a _ _ _ _ (by omega) (by decide) g3 (by omega) (by omega) with ⟨b1, B⟩ | B
          · left
            have e48 : thM (eM a m) i (inX m (vlT m i)) (nA a) 158 48 = eM a m 158 48 := by
              unfold thM
              split <;> rfl
            have := RX_call (n := nA a) (lm := eM a m 158 48) E f1 B b1 (by have := f1.2.2.2.1; omega) hp (by omega) g1 hk rfl (EE_Fm E f1).hd
            unfold emH
            rw [e48]
            exact this
          · right
            rw [thM_b B.1]
            exact Br_em B
        · obtain ⟨e1, e2⟩ := clM_n hb (fun z => hk z.1)
          have B := us_nm E R hp (by omega) g1 (by decide) (hD i hp (by omega)) hk
          rw [e1]
          have B2 := Br_xE E.mo B hp (by decide) g3 (by omega) hq
          right
          rw [thM_b B2.1]
          exact Br_em B2
    · rcases inv_6 h with ⟨i, a, b, rfl, g1, g2, g3, g4⟩ | ⟨i, a, b, rfl, g1, g2, g3, r, g4, g5⟩
      · exact Or.inl ⟨hb, R⟩
      · rw [tsz_nd] at ht
        have := P_le a g4
        have := P_le b g5
        have f1 := fm a _ _ _ _ (by decide) g4 m (Or.inl hb)
        exact seq b _ _ _ _ _ _ _ _ (by omega) (by decide) g5 (fst a _ _ _ _ (by omega) (by decide) g4 (by omega) (by omega)) f1 (by omega) (by omega) (by omega) (by omega)
    · rcases inv_7 h with ⟨i, a, b, rfl, g1, r, g2, g3⟩ | ⟨i, a, b, rfl, g1, g2⟩
      · rw [tsz_nd] at ht
        have := P_le a g2
        have := P_le b g3
        have f1 := fm a _ _ _ _ (by decide) g2 m (Or.inl hb)
        exact seq b _ _ _ _ _ _ _ _ (by omega) (by decide) g3 (fst a _ _ _ _ (by omega) (by decide) g2 (by omega) (by omega)) f1 (by omega) (by omega) (by omega) (by omega)
      · exact Or.inl ⟨hb, R⟩
