/-! A TYPED PROGRAM: orders O, operands A, links G -/
def popF (pr : Nat → Int) (o a : Int) : Int := if o = 17 then pr a.toNat else if o = 3 ∨ o = 5 ∨ o = 6 ∨ o = 13 ∨ o = 16 ∨ o = 18 ∨ o = 20 ∨ o = 22 then 1 else if o = 7 ∨ o = 8 ∨ o = 9 ∨ o = 10 ∨ o = 11 ∨ o = 12 ∨ o = 14 then 2 else 0
def OpP (pr vw : Nat → Int) (nv nc np p ml o a h : Int) : Prop := (1 ≤ o ∧ o ≤ 25) ∧ popF pr o a ≤ h ∧ (o = 1 → 0 ≤ a ∧ a ≤ 32767) ∧ (o = 2 ∨ o = 3 → 0 ≤ a ∧ a < ml) ∧ (o = 4 ∨ o = 5 → (0 ≤ a ∧ a < nv) ∧ vw a.toNat = 1) ∧ (o = 6 ∨ o = 7 → 0 ≤ a ∧ a < nv) ∧ (o = 14 → 0 ≤ a ∧ a ≤ 5) ∧ (o = 17 → 0 ≤ a ∧ a < np) ∧ (o = 21 ∨ o = 24 → 1 ≤ a ∧ a ≤ nc) ∧ (o = 22 ∨ o = 23 → a = p) ∧ (o = 15 ∨ o = 23 ∨ o = 24 ∨ o = 25 → h = 0) ∧ (o = 16 → h = 1) ∧ (8 ≤ o ∧ o ≤ 13 ∨ o = 15 ∨ o = 16 ∨ o = 18 ∨ o = 19 ∨ o = 20 ∨ o = 25 → a = 0)
/-- one proc of it -/
def TyQ1 (O A G : Nat → Int) (fe : Nat → Nat) (np : Nat) (pr vw : Nat → Int) (nv nc : Int) (h : Nat → Int) (ml mx : Int) (p : Nat) : Prop := (0 ≤ pr p ∧ pr p ≤ ml ∧ ml ≤ 1510 ∧ 0 ≤ mx ∧ mx ≤ 3000) ∧ (h (fe p + 1) = 0 ∧ h (fe (p + 1) - 1) = 0) ∧ O (fe (p + 1) - 2) = 22 ∧ ∀ k, fe p < k → k < fe (p + 1) - 1 → OpP pr vw nv nc (np : Int) (p : Int) ml (O k) (A k) (h k) ∧ h (k + 1) = h k + psh (O k) - (if O k = 17 then pr (A k).toNat else 0) ∧ h (k + 1) ≤ mx ∧ (isR (O k) → ((fe p : Int) < G k ∧ G k < (fe (p + 1) : Int)) ∧ (O (G k).toNat = 23 ∨ O (G k).toNat = 26)) ∧ (isJ (O k) → ((fe p : Int) < G k ∧ G k < (fe (p + 1) : Int)) ∧ h (G k).toNat = 0)
def TyP (O A G : Nat → Int) (fe : Nat → Nat) (np n : Nat) (pr vw : Nat → Int) (nv nc : Int) (sz wt : Nat → Int) (h : Nat → Int) : Prop := SGs O A fe np ∧ fe np = n ∧ ∀ p, p < np → ∃ ml mx, TyQ1 O A G fe np pr vw nv nc h ml mx p ∧ sz p = ml + 2 ∧ wt p = ml + 2 - pr p + mx + 3 ∧ ml - pr p ≤ 16
section Tyd
variable {mc mr j' m' m5 : Mem} {e : Int} {cd : Nat} {t : xT} {V' : Nat → Int} {σ : Int → Int} {fe : Nat → Nat}
theorem OpT_P {m0 : Mem} {pr vw : Nat → Int} {nv nc np p ml o a h : Int} (hT : OpT m0 p ml o a h) (h5 : m0 57 5 = nv) (h6 : m0 57 6 = nc) (h7 : m0 57 7 = np) (h64 : ∀ k : Nat, (k : Int) < np → m0 64 k = pr k) (h63 : ∀ k : Nat, (k : Int) < nv → m0 63 k = vw k) : OpP pr vw nv nc np p ml o a h := by
  obtain ⟨t1, t2, t3, t4, t5, t6, t7, t8, t9⟩ := hT
  rw [h5] at t5 t6
  rw [h6] at t9
  rw [h7] at t8
  refine ⟨t1, ?_, t3, t4, fun w => ?_, t6, t7, t8, t9⟩
  · unfold pops at t2
    unfold popF
    by_cases c : o = 17
    · rw [if_pos c] at t2 ⊢
      have hb := t8 c
      have ep : prm m0 a = m0 64 a.toNat := if_neg (by omega)
      rw [ep, h64 _ (by omega)] at t2
      exact t2
    · rw [if_neg c] at t2 ⊢
      exact t2
  · obtain ⟨a1, a2⟩ := t5 w
    rw [h63 _ (by omega)] at a2
    exact ⟨a1, a2⟩
/-- labels, put in -/
theorem A4 (hc : cd = 83 ∨ cd = 93) (hO : m' 158 41 = ((xTo cd t (cst cd m5)).1.1.length : Int) ∧ ∀ k, k < (xTo cd t (cst cd m5)).1.1.length → m' 177 k = ((xTo cd t (cst cd m5)).1.1.getD k (0, 0, 0)).1 ∧ m' 178 k = ((xTo cd t (cst cd m5)).1.1.getD k (0, 0, 0)).2.1 ∧ (if m' 179 k < 0 then -1 else m' 181 (m' 179 k).toNat) = lbl (xTo cd t (cst cd m5)).2.1.1 ((xTo cd t (cst cd m5)).1.1.getD k (0, 0, 0)).2.2) (PGf : PG (m85 cd m5) cd (xTo cd t (cst cd m5)) fe (rT t).length) (h40 : (rT t).length ≤ 40) (h15 : (xTo cd t (cst cd m5)).2.2.2 68 15 = 0) (hcv : CV m5 (vwT (fun i => mr 163 i.toNat) t) (rT t)) (h170 : ∀ k, k < (rT t).length → m5 64 k = m' 170 k) (h168 : ∀ k, k < (vwT (fun i => mr 163 i.toNat) t).length → m' 168 k = (vwT (fun i => mr 163 i.toNat) t).getD k 0) (hkp : ∀ k, k < (rT t).length → (xTo cd t (cst cd m5)).2.2.2 (cd + 5) k = m' 170 k ∧ (xTo cd t (cst cd m5)).2.2.2 (cd + 6) k = m' 170 k + 2 + m' 171 k ∧ (xTo cd t (cst cd m5)).2.2.2 (cd + 7) k = w32 (2 + m' 171 k + m' 183 k + 3)) : TyP (m' 177) (m' 178) (tgM m') fe (rT t).length (xTo cd t (cst cd m5)).1.1.length (m' 170) (m' 168) ((vwT (fun i => mr 163 i.toNat) t).length : Int) (m5 57 6) (fun p => m' 170 p + 2 + m' 171 p) (fun p => w32 (2 + m' 171 p + m' 183 p + 3)) (hgt (m85 cd m5) (xTo cd t (cst cd m5)).1.1) := by
  obtain ⟨hn, hop⟩ := hO
  obtain ⟨G1, G2, G3, G4, G5⟩ := PGf
  generalize vwT (fun i => mr 163 i.toNat) t = ws at *
  have h77 := hcv.2.1.1
  generalize (rT t).length = np at *
  have hmn : ∀ p, p ≤ np → fe p ≤ (xTo cd t (cst cd m5)).1.1.length := by
    intro p hp
    by_cases c : p = np
    · subst c
      rw [G3]
      exact Nat.le_refl _
    · obtain ⟨told, ml, mx, q1, -⟩ := G5 p (by omega)
      have := q1.1
      omega
  have tg : ∀ k, k < (xTo cd t (cst cd m5)).1.1.length → tgM m' k = lbl (xTo cd t (cst cd m5)).2.1.1 ((xTo cd t (cst cd m5)).1.1.getD k (0, 0, 0)).2.2 := fun k hk => (hop k hk).2.2
  have lb : ∀ l : Int, 0 ≤ l → l < ((xTo cd t (cst cd m5)).2.1.1.length : Int) → lbl (xTo cd t (cst cd m5)).2.1.1 l = (xTo cd t (cst cd m5)).2.1.1.getD l.toNat 0 := fun l a b => if_neg (by omega)
  have S : SGs (m' 177) (m' 178) fe np := by
    refine ⟨G2, fun p hp => ?_⟩
    obtain ⟨told, ml, mx, q1, -⟩ := G5 p hp
    obtain ⟨b1, b2, b3, b4, b5, b6, b7, b8⟩ := q1
    have l1 := hmn (p + 1) (by omega)
    refine ⟨b1.1, ?_, ?_, fun k k1 k2 => ?_⟩
    · rw [(hop (fe p) (by omega)).1, (hop (fe p) (by omega)).2.1, b2]
      exact ⟨rfl, rfl⟩
    · rw [(hop (fe (p + 1) - 1) (by omega)).1, (hop (fe (p + 1) - 1) (by omega)).2.1, b3]
      exact ⟨rfl, rfl⟩
    · rw [(hop k (by omega)).1, (hop k (by omega)).2.1]
      obtain ⟨t1, -, -, -, -, -, -, -, -, t10, -⟩ := (b8 k k1 k2).1
      exact ⟨t1, t10⟩
  refine ⟨S, G3, fun p hp => ?_⟩
  obtain ⟨told, ml, mx, q1, q2, q3⟩ := G5 p hp
  obtain ⟨b1, b2, b3, b4, b5, b6, b7, b8⟩ := q1
  obtain ⟨c1, c2, c3, c4⟩ := q2 (by omega)
  obtain ⟨d1, d2, d3⟩ := hkp p hp
  have l1 := hmn (p + 1) (by omega)
  have et : told = m' 170 p := by rw [← c1, d1]
  refine ⟨ml, mx, ⟨⟨by omega, by omega, b5.2.2.1, b5.2.2.2⟩, ⟨b6, b7⟩, by rw [(hop _ (by omega)).1, b4], fun k k1 k2 => ?_⟩, by show m' 170 p + 2 + m' 171 p = ml + 2; omega, by show w32 (2 + m' 171 p + m' 183 p + 3) = _; omega, by have := q3 h15; omega⟩
  obtain ⟨t1, t2, t3, t4, t5⟩ := b8 k k1 k2
  obtain ⟨o1, o2, o3⟩ := hop k (by omega)
  rw [← o1, ← o2] at t1
  have P1 := OpT_P (pr := m' 170) (vw := m' 168) (nv := (ws.length : Int)) (nc := m5 57 6) (np := (np : Int)) t1 (by rw [m85_o (by decide)]; exact hcv.1.1) (m85_o (by decide)) (by rw [m85_o (by decide)]; exact h77) (fun q hq => by rw [m85_o (by decide)]; exact h170 q (by omega)) (fun q hq => by rw [m85_o (by decide), (hcv.1.2.1 q (by omega)).1, h168 q (by omega)])
  refine ⟨P1, ?_, t2, fun hr => ?_, fun hj => ?_⟩
  · show hst (m85 cd m5) (hgt (m85 cd m5) (xTo cd t (cst cd m5)).1.1 k) ((xTo cd t (cst cd m5)).1.1.getD k (0, 0, 0)) = _
    have hx : (xTo cd t (cst cd m5)).1.1.getD k (0, 0, 0) = (m' 177 k, m' 178 k, ((xTo cd t (cst cd m5)).1.1.getD k (0, 0, 0)).2.2) := by rw [o1, o2]
    rw [hx]
    unfold hst
    show (if m' 177 k = 0 then 0 else hgt (m85 cd m5) (xTo cd t (cst cd m5)).1.1 k + psh (m' 177 k) - (if m' 177 k = 17 then prm (m85 cd m5) (m' 178 k) else 0)) = _
    rw [if_neg (by have := P1.1; omega)]
    by_cases c : m' 177 k = 17
    · have hb := P1.2.2.2.2.2.2.2.1 c
      have ep : prm (m85 cd m5) (m' 178 k) = m85 cd m5 64 (m' 178 k).toNat := if_neg (by rw [m85_o (by decide), h77]; omega)
      rw [if_pos c, if_pos c, ep, m85_o (by decide), h170 _ (by omega)]
    · rw [if_neg c, if_neg c]
  · rw [o1] at hr
    obtain ⟨w1, w2, w3⟩ := t3 hr
    rw [tg k (by omega), lb _ w1.1 w1.2, (hop _ (by omega)).1]
    exact ⟨w2, w3⟩
  · rw [o1] at hj
    obtain ⟨w1, w2, w3⟩ := t4 hj
    rw [tg k (by omega), lb _ w1.1 w1.2]
    exact ⟨w2, w3⟩
end Tyd
