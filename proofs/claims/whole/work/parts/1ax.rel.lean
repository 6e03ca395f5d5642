/-! CLASS AND MODEL, THE SECOND WALK: the relation between the parts of a text -/
abbrev xLL : Type := List (List Int)
def hnT : xT → List Int
  | .tag k (.nest _ (.append a b)) => match k with
    | 44 => hN a :: hnT b
    | 40 => []
    | _ => hnT b
  | _ => []
def rT : xT → List (List Int)
  | .tag k (.nest _ (.append a b)) => match k with
    | 44 => rsT a :: rT b
    | 40 => []
    | _ => rT b
  | _ => []
def vwT (v : Int → Int) : xT → List Int
  | .tag k (.nest i (.append _ b)) => match k with
    | 41 => 1 :: vwT v b
    | 42 => v (i + 3) :: vwT v b
    | 40 => []
    | _ => vwT v b
  | _ => []
def lgT (v : Int → Int) : xT → Prop
  | .tag k (.nest i (.append _ b)) => match k with
    | 42 => (v (i + 3) < 1 ∨ 500 < v (i + 3)) ∨ lgT v b
    | 40 => False
    | _ => lgT v b
  | _ => False
def TT (cd : Nat) (v : Int → Int) (e : Int) (t : xT) (p : Int) (c : wS) (l : List Int) (rl : xLL) (ws : List Int) (m : Mem) (σ : Int → Int) (D : Int) (G : Prop) : Prop := (SE c.2.2.2 m e) ∧ (SR c.2.2.2 c.1 c.2.1 (gms c.1 c.2.1 m) σ D G (-1) p) ∧ (m 158 15 = 0) ∧ (True) ∧ (m 158 41 ≤ p) ∧ ((c.2.1.1.length : Int) ≤ p) ∧ (0 ≤ m 158 36 ∧ m 158 36 ≤ p) ∧ (0 ≤ m 158 25 ∧ m 158 25 ≤ p) ∧ (0 ≤ m 158 21 ∧ m 158 21 ≤ p) ∧ (0 ≤ m 158 24 ∧ m 158 24 ≤ p + 6) ∧ (m 158 29 = (l.length : Int) ∧ (l.length : Int) ≤ p + 5) ∧ (TBL m (l ++ cT v t)) ∧ (∀ i, vlT m i = v i) ∧ (∀ k : Nat, k < (hnT t).length → m 170 (m 158 25 + (k : Int)).toNat = (hnT t).getD k 0) ∧ ((m 158 28 = 0 ∨ m 158 28 = 1) ∧ (lgT v t → m 158 28 = 1)) ∧ (D = if dT v t l = -1 then 3001 else c.2.2.2 54 (dT v t l).toNat) ∧ (∀ k : Nat, (k : Int) < m 158 25 → -1600 ≤ m 171 k ∧ m 171 k ≤ 1600 ∧ (k < 40 → c.2.2.2 (cd + 5) k = m 170 k ∧ c.2.2.2 (cd + 6) k = m 170 k + 2 + m 171 k ∧ (G → c.1.2.2.2.2 = 3001 → c.2.2.2 (cd + 7) k = w32 (2 + m 171 k + m 183 k + 3)) ∧ c.2.2.2 (cd + 8) k = m 182 k)) ∧ ((c.2.2.2 68 15 = 0 ∨ c.2.2.2 68 15 = 1) ∧ (c.2.2.2 68 15 = 1 ↔ ∃ k : Nat, (k : Int) < m 158 25 ∧ 16 < m 171 k)) ∧ ((rl.length : Int) = m 158 25 ∧ m 158 36 = (rl.flatten.length : Int) ∧ (∀ k : Nat, k < rl.length → m 173 k = ((rl.take k).flatten.length : Int) ∧ m 174 k = ((rl.getD k []).length : Int)) ∧ ∀ k : Nat, k < rl.flatten.length → m 175 k = inX m (v (rl.flatten.getD k 0))) ∧ ((ws.length : Int) = m 158 21 ∧ ∀ k : Nat, k < ws.length → m 168 k = ws.getD k 0)
theorem TT.se {cd : Nat} {v : Int → Int} {e : Int} {t : xT} {p : Int} {c : wS} {l : List Int} {rl : xLL} {ws : List Int} {m : Mem} {σ : Int → Int} {D : Int} {G : Prop} (R : TT cd v e t p c l rl ws m σ D G) : SE c.2.2.2 m e := R.1
theorem TT.sr {cd : Nat} {v : Int → Int} {e : Int} {t : xT} {p : Int} {c : wS} {l : List Int} {rl : xLL} {ws : List Int} {m : Mem} {σ : Int → Int} {D : Int} {G : Prop} (R : TT cd v e t p c l rl ws m σ D G) : SR c.2.2.2 c.1 c.2.1 (gms c.1 c.2.1 m) σ D G (-1) p := R.2.1
theorem TT.b0 {cd : Nat} {v : Int → Int} {e : Int} {t : xT} {p : Int} {c : wS} {l : List Int} {rl : xLL} {ws : List Int} {m : Mem} {σ : Int → Int} {D : Int} {G : Prop} (R : TT cd v e t p c l rl ws m σ D G) : m 158 15 = 0 := R.2.2.1
theorem TT.l30 {cd : Nat} {v : Int → Int} {e : Int} {t : xT} {p : Int} {c : wS} {l : List Int} {rl : xLL} {ws : List Int} {m : Mem} {σ : Int → Int} {D : Int} {G : Prop} (R : TT cd v e t p c l rl ws m σ D G) : True := R.2.2.2.1
theorem TT.o41 {cd : Nat} {v : Int → Int} {e : Int} {t : xT} {p : Int} {c : wS} {l : List Int} {rl : xLL} {ws : List Int} {m : Mem} {σ : Int → Int} {D : Int} {G : Prop} (R : TT cd v e t p c l rl ws m σ D G) : m 158 41 ≤ p := R.2.2.2.2.1
theorem TT.lc {cd : Nat} {v : Int → Int} {e : Int} {t : xT} {p : Int} {c : wS} {l : List Int} {rl : xLL} {ws : List Int} {m : Mem} {σ : Int → Int} {D : Int} {G : Prop} (R : TT cd v e t p c l rl ws m σ D G) : (c.2.1.1.length : Int) ≤ p := R.2.2.2.2.2.1
theorem TT.r36 {cd : Nat} {v : Int → Int} {e : Int} {t : xT} {p : Int} {c : wS} {l : List Int} {rl : xLL} {ws : List Int} {m : Mem} {σ : Int → Int} {D : Int} {G : Prop} (R : TT cd v e t p c l rl ws m σ D G) : 0 ≤ m 158 36 ∧ m 158 36 ≤ p := R.2.2.2.2.2.2.1
theorem TT.n25 {cd : Nat} {v : Int → Int} {e : Int} {t : xT} {p : Int} {c : wS} {l : List Int} {rl : xLL} {ws : List Int} {m : Mem} {σ : Int → Int} {D : Int} {G : Prop} (R : TT cd v e t p c l rl ws m σ D G) : 0 ≤ m 158 25 ∧ m 158 25 ≤ p := R.2.2.2.2.2.2.2.1
theorem TT.v21 {cd : Nat} {v : Int → Int} {e : Int} {t : xT} {p : Int} {c : wS} {l : List Int} {rl : xLL} {ws : List Int} {m : Mem} {σ : Int → Int} {D : Int} {G : Prop} (R : TT cd v e t p c l rl ws m σ D G) : 0 ≤ m 158 21 ∧ m 158 21 ≤ p := R.2.2.2.2.2.2.2.2.1
theorem TT.c24 {cd : Nat} {v : Int → Int} {e : Int} {t : xT} {p : Int} {c : wS} {l : List Int} {rl : xLL} {ws : List Int} {m : Mem} {σ : Int → Int} {D : Int} {G : Prop} (R : TT cd v e t p c l rl ws m σ D G) : 0 ≤ m 158 24 ∧ m 158 24 ≤ p + 6 := R.2.2.2.2.2.2.2.2.2.1
theorem TT.t29 {cd : Nat} {v : Int → Int} {e : Int} {t : xT} {p : Int} {c : wS} {l : List Int} {rl : xLL} {ws : List Int} {m : Mem} {σ : Int → Int} {D : Int} {G : Prop} (R : TT cd v e t p c l rl ws m σ D G) : m 158 29 = (l.length : Int) ∧ (l.length : Int) ≤ p + 5 := R.2.2.2.2.2.2.2.2.2.2.1
theorem TT.tb {cd : Nat} {v : Int → Int} {e : Int} {t : xT} {p : Int} {c : wS} {l : List Int} {rl : xLL} {ws : List Int} {m : Mem} {σ : Int → Int} {D : Int} {G : Prop} (R : TT cd v e t p c l rl ws m σ D G) : TBL m (l ++ cT v t) := R.2.2.2.2.2.2.2.2.2.2.2.1
theorem TT.vv {cd : Nat} {v : Int → Int} {e : Int} {t : xT} {p : Int} {c : wS} {l : List Int} {rl : xLL} {ws : List Int} {m : Mem} {σ : Int → Int} {D : Int} {G : Prop} (R : TT cd v e t p c l rl ws m σ D G) : ∀ i, vlT m i = v i := R.2.2.2.2.2.2.2.2.2.2.2.2.1
theorem TT.pm {cd : Nat} {v : Int → Int} {e : Int} {t : xT} {p : Int} {c : wS} {l : List Int} {rl : xLL} {ws : List Int} {m : Mem} {σ : Int → Int} {D : Int} {G : Prop} (R : TT cd v e t p c l rl ws m σ D G) : ∀ k : Nat, k < (hnT t).length → m 170 (m 158 25 + (k : Int)).toNat = (hnT t).getD k 0 := R.2.2.2.2.2.2.2.2.2.2.2.2.2.1
theorem TT.lg {cd : Nat} {v : Int → Int} {e : Int} {t : xT} {p : Int} {c : wS} {l : List Int} {rl : xLL} {ws : List Int} {m : Mem} {σ : Int → Int} {D : Int} {G : Prop} (R : TT cd v e t p c l rl ws m σ D G) : (m 158 28 = 0 ∨ m 158 28 = 1) ∧ (lgT v t → m 158 28 = 1) := R.2.2.2.2.2.2.2.2.2.2.2.2.2.2.1
theorem TT.dd {cd : Nat} {v : Int → Int} {e : Int} {t : xT} {p : Int} {c : wS} {l : List Int} {rl : xLL} {ws : List Int} {m : Mem} {σ : Int → Int} {D : Int} {G : Prop} (R : TT cd v e t p c l rl ws m σ D G) : D = if dT v t l = -1 then 3001 else c.2.2.2 54 (dT v t l).toNat := R.2.2.2.2.2.2.2.2.2.2.2.2.2.2.2.1
theorem TT.kp {cd : Nat} {v : Int → Int} {e : Int} {t : xT} {p : Int} {c : wS} {l : List Int} {rl : xLL} {ws : List Int} {m : Mem} {σ : Int → Int} {D : Int} {G : Prop} (R : TT cd v e t p c l rl ws m σ D G) : ∀ k : Nat, (k : Int) < m 158 25 → -1600 ≤ m 171 k ∧ m 171 k ≤ 1600 ∧ (k < 40 → c.2.2.2 (cd + 5) k = m 170 k ∧ c.2.2.2 (cd + 6) k = m 170 k + 2 + m 171 k ∧ (G → c.1.2.2.2.2 = 3001 → c.2.2.2 (cd + 7) k = w32 (2 + m 171 k + m 183 k + 3)) ∧ c.2.2.2 (cd + 8) k = m 182 k) := R.2.2.2.2.2.2.2.2.2.2.2.2.2.2.2.2.1
theorem TT.la {cd : Nat} {v : Int → Int} {e : Int} {t : xT} {p : Int} {c : wS} {l : List Int} {rl : xLL} {ws : List Int} {m : Mem} {σ : Int → Int} {D : Int} {G : Prop} (R : TT cd v e t p c l rl ws m σ D G) : (c.2.2.2 68 15 = 0 ∨ c.2.2.2 68 15 = 1) ∧ (c.2.2.2 68 15 = 1 ↔ ∃ k : Nat, (k : Int) < m 158 25 ∧ 16 < m 171 k) := R.2.2.2.2.2.2.2.2.2.2.2.2.2.2.2.2.2.1
theorem TT.rr {cd : Nat} {v : Int → Int} {e : Int} {t : xT} {p : Int} {c : wS} {l : List Int} {rl : xLL} {ws : List Int} {m : Mem} {σ : Int → Int} {D : Int} {G : Prop} (R : TT cd v e t p c l rl ws m σ D G) : (rl.length : Int) = m 158 25 ∧ m 158 36 = (rl.flatten.length : Int) ∧ (∀ k : Nat, k < rl.length → m 173 k = ((rl.take k).flatten.length : Int) ∧ m 174 k = ((rl.getD k []).length : Int)) ∧ ∀ k : Nat, k < rl.flatten.length → m 175 k = inX m (v (rl.flatten.getD k 0)) := R.2.2.2.2.2.2.2.2.2.2.2.2.2.2.2.2.2.2.1
theorem TT.vw {cd : Nat} {v : Int → Int} {e : Int} {t : xT} {p : Int} {c : wS} {l : List Int} {rl : xLL} {ws : List Int} {m : Mem} {σ : Int → Int} {D : Int} {G : Prop} (R : TT cd v e t p c l rl ws m σ D G) : (ws.length : Int) = m 158 21 ∧ ∀ k : Nat, k < ws.length → m 168 k = ws.getD k 0 := R.2.2.2.2.2.2.2.2.2.2.2.2.2.2.2.2.2.2.2
theorem SE_Kp {mc mc' m : Mem} {e : Int} (S : SE mc m e) (K : Kp mc mc') : SE mc' m e := by
  have k1 : kd mc' = kd mc := Kp_kd K
  have k2 : ∀ i, idT mc' i = idT mc i := fun i => by
    unfold idT
    rw [K.1 51 5 (by decide) (by decide), K.1 55 _ (by decide) (by decide)]
  have k3 : ∀ i, kI mc' i = kI mc i := fun i => by
    unfold kI
    rw [K.1 57 4 (by decide) (by decide), K.1 59 _ (by decide) (by decide)]
  have k5 : ∀ i, nmI mc' i = nmI mc i := fun i => by
    unfold nmI
    rw [K.1 57 4 (by decide) (by decide), K.1 60 _ (by decide) (by decide)]
  have k6 : ∀ i, prm mc' i = prm mc i := fun i => by
    unfold prm
    rw [K.1 57 7 (by decide) (by decide), K.1 64 _ (by decide) (by decide)]
  have k7 : mc' 57 4 = mc 57 4 := K.1 57 4 (by decide) (by decide)
  have k8 : ∀ k, mc' 58 k = mc 58 k := fun k => K.1 58 k (by decide) (by decide)
  have k10 : ∀ k, mc' 54 k = mc 54 k := fun k => K.1 54 k (by decide) (by decide)
  refine ⟨fun i h0 h1 h2 => ?_, fun i h0 h1 h2 => ?_, fun i h0 h1 => ?_, fun i j h0 h1 h2 => ?_, ?_, S.v1, fun a b h1 h2 h3 h4 h5 => ?_, S.ci, fun j h0 h1 => ?_, S.wx, S.tp, S.fu, S.el, fun i j h0 h1 h2 => ?_⟩
  · rw [k1] at h2
    have := S.nm i h0 h1 h2
    rw [k2, k3, k5, k6, k7, k8]
    exact this
  · rw [k1] at h2
    rw [k2]; exact S.nb i h0 h1 h2
  · rw [k10]; exact S.pl i h0 h1
  · rw [k10, k10]; exact S.mo i j h0 h1 h2
  · rw [K.1 51 5 (by decide) (by decide)]; exact S.e5
  · rw [k7] at h2 h4
    rw [k8, k8] at h5
    exact S.ij a b h1 h2 h3 h4 h5
  · rw [k1]; exact S.tr j h0 h1
  · rw [k10, k10]; exact S.ms i j h0 h1 h2
/-- a part that is no proc -/
theorem TT_fr {cd : Nat} {v : Int → Int} {e p p' : Int} {t t' : xT} {c : wS} {l l' : List Int} {rl : List (List Int)} {ws ws' : List Int} {m m' : Mem} {σ : Int → Int} {D : Int} {G : Prop} (T : TT cd v e t p c l rl ws m σ D G) (f : ∀ a k, a ≠ 168 → ¬ (a = 158 ∧ (k = 21 ∨ k = 24 ∨ k = 29)) → m' a k = m a k) (hp : p ≤ p') (htb : l ++ cT v t = l' ++ cT v t') (h29 : m' 158 29 = (l'.length : Int) ∧ (l'.length : Int) ≤ p' + 5) (h21 : 0 ≤ m' 158 21 ∧ m' 158 21 ≤ p') (h24 : 0 ≤ m' 158 24 ∧ m' 158 24 ≤ p' + 6) (hn : hnT t' = hnT t) (hl : lgT v t' → lgT v t) (hd : dT v t' l' = dT v t l) (hw : (ws'.length : Int) = m' 158 21 ∧ ∀ k : Nat, k < ws'.length → m' 168 k = ws'.getD k 0) : TT cd v e t' p' c l' rl ws' m' σ D G := by
  have fq : FQ m m' := fun a k hk => f a k (fun z => by subst z; exact absurd hk (by show ¬ (false = true); decide)) (fun z => by
    obtain ⟨rfl, z⟩ := z
    rcases z with rfl | rfl | rfl <;> exact absurd hk (by decide))
  have e25 : m' 158 25 = m 158 25 := f _ _ (by decide) (by omega)
  have r36 := T.r36
  have n25 := T.n25
  have o41 := T.o41
  have lc := T.lc
  refine ⟨SE_FQ T.se fq, ?_, (f _ _ (by decide) (by omega)).trans T.b0, ?_, ?_, by omega, ?_, by omega, h21, h24, h29, ?_, fun i => (f _ _ (by decide) (by omega)).trans (T.vv i), fun k hk => ?_, ?_, by rw [hd]; exact T.dd, fun k hk => ?_, ?_, ?_, hw⟩
  · refine SR_cg T.sr (fun a k hk => ?_) hp
    have n168 : a ≠ 168 := fun z => by subst z; exact absurd hk (by show ¬ (false = true); decide)
    have n3 : ¬ (a = 158 ∧ (k = 21 ∨ k = 24 ∨ k = 29)) := fun z => by
      obtain ⟨rfl, z⟩ := z
      rcases z with rfl | rfl | rfl <;> exact absurd hk (by decide)
    unfold gms gm
    simp only [put_ss]
    rw [f a k n168 n3, e25]
  · exact T.l30
  · rw [f _ _ (by decide) (by omega)]; omega
  · rw [f _ _ (by decide) (by omega)]; omega
  · rw [← htb]
    exact ⟨by rw [f _ _ (by decide) (by omega)]; exact T.tb.1, fun k hk => by rw [f _ _ (by decide) (by omega)]; exact T.tb.2 k hk⟩
  · rw [hn] at hk ⊢
    rw [e25, f _ _ (by decide) (by omega)]
    exact T.pm k hk
  · rw [f _ _ (by decide) (by omega)]
    exact ⟨T.lg.1, fun z => T.lg.2 (hl z)⟩
  · rw [e25] at hk
    rw [f _ _ (by decide) (by omega), f _ _ (by decide) (by omega), f _ _ (by decide) (by omega), f _ _ (by decide) (by omega)]
    exact T.kp k hk
  · refine ⟨T.la.1, T.la.2.trans ?_⟩
    constructor
    · rintro ⟨k, h1, h2⟩
      exact ⟨k, by rw [e25]; exact h1, by rw [f _ _ (by decide) (by omega)]; exact h2⟩
    · rintro ⟨k, h1, h2⟩
      rw [e25] at h1
      rw [f _ _ (by decide) (by omega)] at h2
      exact ⟨k, h1, h2⟩
  · obtain ⟨q1, q2, q3, q4⟩ := T.rr
    refine ⟨by rw [e25]; exact q1, by rw [f _ _ (by decide) (by omega)]; exact q2, fun k hk => ?_, fun k hk => ?_⟩
    · rw [f _ _ (by decide) (by omega), f _ _ (by decide) (by omega)]; exact q3 k hk
    · rw [f _ _ (by decide) (by omega), inX_FQ fq]; exact q4 k hk
section Xnf
variable {cd : Nat} {V : Int → Int} {B e : Int}
theorem xPr_nf {mc : Mem} {a : xT} {p r : Int} {s : xSt} {y : yS} (hP : PH (kd mc) V a p r) (hs : ∀ j, p ≤ j → j < r → B ≤ mc 54 j.toNat) (h0 : s.2.2.2.1 = B) : (xPr cd mc a s y).1.2.2.2.1 = B := by
  obtain ⟨i, pa, i2, ra, bk, rfl, r1, s1, g1, g2, g3, g4⟩ := inv_H hP
  have l1 : p ≤ r1 := by
    rcases g1 with ⟨_, _, g⟩ | ⟨_, _, g⟩
    · omega
    · have := PN_n pa g
      omega
  have l2 : r1 + 1 ≤ s1 := by
    rcases g3 with ⟨_, _, g⟩ | ⟨_, _, g⟩
    · omega
    · have := PN_n ra g
      omega
  have l4 := P_le bk g4
  show (p6 mc (nln (p1 mc i pa s y).2) (p5 mc bk (p2 mc i2 ra (p1 mc i pa s y).1) (p1 mc i pa s y).2)).1.2.2.2.1 = B
  refine p56_nf g4 (fun j z1 z2 => hs j (by omega) (by omega)) (p2_nf (p := r1 + 2) (q := s1) ?_ (fun j z1 z2 => hs j (by omega) (by omega)) (p1_nf (p := p) (q := r1) ?_ (fun j z1 z2 => hs j (by omega) (by omega)) h0))
  · rcases g3 with ⟨g, _⟩ | ⟨_, _, g⟩
    · exact Or.inl g
    · exact Or.inr g
  · rcases g1 with ⟨g, _⟩ | ⟨_, _, g⟩
    · exact Or.inl g
    · exact Or.inr g
theorem xTo_nf (hc : cd = 83 ∨ cd = 93) : ∀ (k : Nat) (t : xT), tsz t < k → ∀ (p : Int) (c : wS), PT (kd c.2.2.2) V t p e → (∀ j, p ≤ j → j < e → B ≤ c.2.2.2 54 j.toNat) → c.1.2.2.2.1 = B → (xTo cd t c).1.2.2.2.1 = B := by
  intro k
  induction k with
  | zero => intro t ht; exact absurd ht (Nat.not_lt_zero _)
  | succ k ih =>
    intro t ht p c h hs h0
    rcases inv_T h with ⟨i, a, b, rfl, g1, g2⟩ | ⟨a, b, rfl, g1, g2, g3, g4⟩ | ⟨a, b, rfl, g1, g2, g3, g4, g5, g6, g7⟩ | ⟨a, b, rfl, g1, r, g2, g3, g4⟩ | ⟨a, b, rfl, g1, g2, g3, r, g4, g5⟩
    · exact h0
    · rw [tsz_nd] at ht
      exact ih b (by omega) _ c g4 (fun j j1 j2 => hs j (by omega) j2) h0
    · rw [tsz_nd] at ht
      exact ih b (by omega) _ c g7 (fun j j1 j2 => hs j (by omega) j2) h0
    · rw [tsz_nd] at ht
      have := PN_n a g2
      exact ih b (by omega) _ c g4 (fun j j1 j2 => hs j (by omega) j2) h0
    · rw [tsz_nd] at ht
      have hph := PH_lt g4
      have hle := PT_le (tsz b + 1) b (by omega) _ _ g5
      have K := Kp_xPr (cd := cd) hc (m := c.2.2.2) (s := c.1) (y := c.2.1) g4
      have n1 := xPr_nf (cd := cd) (s := c.1) (y := c.2.1) g4 (fun j j1 j2 => hs j (by omega) (by omega)) h0
      exact ih b (by omega) r (xPr cd c.2.2.2 a c.1 c.2.1) (by rw [Kp_kd K]; exact g5) (fun j j1 j2 => by rw [K.1 54 _ (by decide) (by decide)]; exact hs j (by omega) j2) n1
end Xnf
