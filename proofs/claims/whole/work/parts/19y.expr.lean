/-! CLASS AND MODEL, THE SECOND WALK: an expression in a statement -/
def feB (a k : Nat) : Bool := (a == 177 || a == 178 || a == 179) || (a == 158 && (k == 9 || k == 10 || k == 15 || k == 16 || k == 41 || k == 52 || k == 53))
def FE (m m' : Mem) : Prop := ∀ a k, feB a k = false → m' a k = m a k
theorem FE_rf {m : Mem} : FE m m := fun _ _ _ => rfl
theorem FE_tr {m m1 m2 : Mem} (h1 : FE m m1) (h2 : FE m1 m2) : FE m m2 := fun a k h => (h2 a k h).trans (h1 a k h)
theorem FE_put {m m1 : Mem} {a k : Nat} {v : Int} (h1 : FE m m1) (h : feB a k = true) : FE m (put m1 a k v) := fun a' k' g => by
  rw [put_ss]
  by_cases e1 : a' = a
  · subst e1
    rw [if_pos rfl]
    by_cases e2 : k' = k
    · subst e2
      rw [h] at g
      exact absurd g (by decide)
    · rw [if_neg e2]; exact h1 a' k' g
  · rw [if_neg e1]; exact h1 a' k' g
theorem FE_emG {m : Mem} {o a l u : Int} {z : Bool} : FE m (emG m o a l u z) := by
  unfold emG
  split
  · unfold emF
    split
    · exact FE_put (FE_put (FE_put (FE_put (FE_put (FE_put (FE_put FE_rf rfl) rfl) rfl) rfl) rfl) rfl) rfl
    · exact FE_put (FE_put (FE_put (FE_put (FE_put (FE_put FE_rf rfl) rfl) rfl) rfl) rfl) rfl
  · exact FE_rf
theorem FE_bkF {m : Mem} {l : Int} : FE m (bkF m l) := FE_put (FE_put (FE_put FE_rf rfl) rfl) rfl
theorem FE_plM {m : Mem} {n : Int} : FE m (plM m n) := by
  unfold plM
  split
  · split
    · exact FE_rf
    · split
      · exact FE_rf
      · exact FE_bkF
  · exact FE_rf
theorem FE_arM {m : Mem} {n : Int} : FE m (arM m n) := by
  unfold arM
  split
  · split
    · exact FE_rf
    · exact FE_bkF
  · exact FE_rf
theorem FE_clM {m : Mem} {n : Int} : FE m (clM m n) := by
  unfold clM
  split
  · split
    · exact FE_rf
    · exact FE_bkF
  · exact FE_rf
theorem FE_thM {m : Mem} {n p k : Int} : FE m (thM m n p k) := by
  unfold thM
  split
  · exact FE_put FE_rf rfl
  · exact FE_rf
theorem FE_eM : ∀ (t : xT) (m : Mem), FE m (eM t m)
  | .tag k (.nest i (.append a b)), m => by
    have ha := FE_eM a
    have hb := FE_eM b
    unfold eM
    split
    · exact ha m
    · exact FE_tr (FE_tr (ha m) (hb _)) FE_emG
    · exact FE_tr (ha m) (hb _)
    · exact FE_tr (FE_tr (ha m) FE_emG) (hb _)
    · exact FE_tr (ha m) (hb _)
    · exact FE_tr (FE_tr (ha m) FE_emG) (hb _)
    · exact FE_tr (ha m) FE_emG
    · exact ha m
    · exact FE_emG
    · exact FE_emG
    · exact FE_tr FE_plM FE_emG
    · exact FE_tr (FE_tr FE_arM (ha _)) FE_emG
    · exact FE_tr (FE_tr (FE_tr FE_clM (ha _)) FE_thM) FE_emG
    · exact FE_tr (ha m) (hb _)
    · exact FE_tr (ha m) (hb _)
    · exact FE_rf
  | .nil, _ => FE_rf
  | .line, _ => FE_rf
  | .align _, _ => FE_rf
  | .text _, _ => FE_rf
  | .append _ _, _ => FE_rf
  | .group _ _, _ => FE_rf
  | .nest _ _, _ => FE_rf
  | .tag _ .nil, _ => FE_rf
  | .tag _ .line, _ => FE_rf
  | .tag _ (.align _), _ => FE_rf
  | .tag _ (.text _), _ => FE_rf
  | .tag _ (.append _ _), _ => FE_rf
  | .tag _ (.group _ _), _ => FE_rf
  | .tag _ (.tag _ _), _ => FE_rf
  | .tag _ (.nest _ .nil), _ => FE_rf
  | .tag _ (.nest _ .line), _ => FE_rf
  | .tag _ (.nest _ (.align _)), _ => FE_rf
  | .tag _ (.nest _ (.text _)), _ => FE_rf
  | .tag _ (.nest _ (.nest _ _)), _ => FE_rf
  | .tag _ (.nest _ (.group _ _)), _ => FE_rf
  | .tag _ (.nest _ (.tag _ _)), _ => FE_rf
theorem FE_caM {u : Int} {t : xT} {m : Mem} : FE m (caM u t m) := FE_tr (FE_tr (FE_tr FE_clM (FE_eM t _)) FE_thM) FE_emG
/-- what a statement says: c the class's state behind it -/
def Pok (mc : Mem) (c : zS) (y : yS) (m m' : Mem) (σ : Int → Int) (D : Int) (G : Prop) (H p q w v : Int) : Prop := (m' 158 15 = 0) ∧ (SR mc c.1 c.2 m' σ D G H q) ∧ (c.1.2.1 = 0) ∧ (m' 158 41 ≤ m 158 41 + (q - p) - w) ∧ ((c.2.1.length : Int) ≤ (y.1.length : Int) + (q - p) - v) ∧ ((y.1.length : Int) ≤ (c.2.1.length : Int)) ∧ (m 158 30 ≤ m' 158 30) ∧ (m 158 39 = m' 158 39) ∧ (m 158 40 = m' 158 40) ∧ (∀ k : Nat, (k : Int) < m 158 39 → m' 176 k = m 176 k)
theorem Pok.b0 {mc : Mem} {c : zS} {y : yS} {m m' : Mem} {σ : Int → Int} {D : Int} {G : Prop} {H p q w v : Int} (R : Pok mc c y m m' σ D G H p q w v) : m' 158 15 = 0 := R.1
theorem Pok.sr {mc : Mem} {c : zS} {y : yS} {m m' : Mem} {σ : Int → Int} {D : Int} {G : Prop} {H p q w v : Int} (R : Pok mc c y m m' σ D G H p q w v) : SR mc c.1 c.2 m' σ D G H q := R.2.1
theorem Pok.pz {mc : Mem} {c : zS} {y : yS} {m m' : Mem} {σ : Int → Int} {D : Int} {G : Prop} {H p q w v : Int} (R : Pok mc c y m m' σ D G H p q w v) : c.1.2.1 = 0 := R.2.2.1
theorem Pok.o41 {mc : Mem} {c : zS} {y : yS} {m m' : Mem} {σ : Int → Int} {D : Int} {G : Prop} {H p q w v : Int} (R : Pok mc c y m m' σ D G H p q w v) : m' 158 41 ≤ m 158 41 + (q - p) - w := R.2.2.2.1
theorem Pok.lc {mc : Mem} {c : zS} {y : yS} {m m' : Mem} {σ : Int → Int} {D : Int} {G : Prop} {H p q w v : Int} (R : Pok mc c y m m' σ D G H p q w v) : (c.2.1.length : Int) ≤ (y.1.length : Int) + (q - p) - v := R.2.2.2.2.1
theorem Pok.ly {mc : Mem} {c : zS} {y : yS} {m m' : Mem} {σ : Int → Int} {D : Int} {G : Prop} {H p q w v : Int} (R : Pok mc c y m m' σ D G H p q w v) : (y.1.length : Int) ≤ (c.2.1.length : Int) := R.2.2.2.2.2.1
theorem Pok.l30 {mc : Mem} {c : zS} {y : yS} {m m' : Mem} {σ : Int → Int} {D : Int} {G : Prop} {H p q w v : Int} (R : Pok mc c y m m' σ D G H p q w v) : m 158 30 ≤ m' 158 30 := R.2.2.2.2.2.2.1
theorem Pok.w39 {mc : Mem} {c : zS} {y : yS} {m m' : Mem} {σ : Int → Int} {D : Int} {G : Prop} {H p q w v : Int} (R : Pok mc c y m m' σ D G H p q w v) : m 158 39 = m' 158 39 := R.2.2.2.2.2.2.2.1
theorem Pok.w40 {mc : Mem} {c : zS} {y : yS} {m m' : Mem} {σ : Int → Int} {D : Int} {G : Prop} {H p q w v : Int} (R : Pok mc c y m m' σ D G H p q w v) : m 158 40 = m' 158 40 := R.2.2.2.2.2.2.2.2.1
theorem Pok.c176 {mc : Mem} {c : zS} {y : yS} {m m' : Mem} {σ : Int → Int} {D : Int} {G : Prop} {H p q w v : Int} (R : Pok mc c y m m' σ D G H p q w v) : ∀ k : Nat, (k : Int) < m 158 39 → m' 176 k = m 176 k := R.2.2.2.2.2.2.2.2.2
def Pst (mc : Mem) (e : Int) (c : zS) (y : yS) (m m' : Mem) (σ : Int → Int) (D : Int) (G : Prop) (H p q p' w v : Int) : Prop := FS m m' ∧ 0 ≤ p' ∧ p' ≤ e ∧ ∃ σ' : Int → Int, (∀ k : Int, k < (y.1.length : Int) → σ' k = σ k) ∧ ((Pok mc c y m m' σ' D G H p q w v ∧ p' = q) ∨ (WU m' ∧ Br mc m' c.1 p q))
section Exs
variable {F L d : Nat} {mc m : Mem} {xs : Nat → Int32} {s : xSt} {y : yS} {σ : Int → Int} {D H p e dep p1 r : Int} {G : Prop} {V : Int → Int} {a : xT}
theorem SR_WU (S : SE mc m e) (R : SR mc s y m σ D G H p) (hp : p < 1990) (h15 : m 158 15 = 0 ∨ m 158 15 = 1) (h41 : m 158 41 < 11900) : WU m := (SR_En S R hp h15 h41).1
theorem rng0 {x : Int} (h : x = 0) : -2147483648 ≤ x ∧ x < 2147483648 := by omega
/-- an expression of a statement -/
theorem Ex_ok (hF : 100000 ≤ F) (S : SE mc m e) (R : SR mc s y m σ D G H p) (hb : m 158 15 = 0) (hr0 : -2147483648 ≤ s.2.1 ∧ s.2.1 < 2147483648) (h : P (kd mc) V a 0 dep p1 r) (hd0 : 0 ≤ dep) (hd1 : dep ≤ 30) (hp0 : 0 ≤ p1) (hpe : p < 1990) (hr : r ≤ e) (h41 : m 158 41 + (r - p1) < 2950) (hD : ∀ j, 0 ≤ j → j < r → mc 54 j.toNat < D) (hd : 300 ≤ d) : (∃ p', 0 ≤ p' ∧ p' ≤ e ∧ (eM a m 158 15 = 0 → p' = r) ∧ Cx F (d + 10) 236 [158] (Hp L xs (rv p1 dep m)) = some ([], Hp L xs (rv p' dep (eM a m)))) ∧ WU (eM a m) ∧ SE mc (eM a m) e ∧ FE m (eM a m) ∧ FS m (eM a m) ∧ m 158 41 ≤ eM a m 158 41 ∧ eM a m 158 41 ≤ m 158 41 + (r - p1) ∧ ((eM a m 158 15 = 0 ∧ SR mc (xE (sww H y mc) a s) y (eM a m) σ D G H p ∧ (xE (sww H y mc) a s).2.1 = w32 (s.2.1 + 1)) ∨ Br mc (eM a m) (xE (sww H y mc) a s) p1 r) := by
  have l0 := P_le a h
  have el := S.el
  have N := SR_En S R hpe (Or.inl hb) (by omega)
  have E := SR_EE S R hpe
  have f1 := Fm_eM (tsz a + 1) a (by omega) _ _ _ _ (by decide) h m (Or.inl hb)
  have f41 := f1.2.2.2.1
  refine ⟨?_, WU_Fm N.1 f1 (by omega), SE_FS S (FS_eM a m), FE_eM a m, FS_eM a m, f1.2.2.1, f41, ?_⟩
  · obtain ⟨p', k1, k2, k3, c1⟩ := (QmAll (F := F) (K := kd mc) (e := e) (by omega) hF (tsz a + 1) a (by omega)).1 V dep p1 r h hd0 hd1 hp0 hr L xs d m p1 N (by omega) hp0 (by omega) (fun _ => rfl) (by omega)
    exact ⟨p', k1, k2, k3, c1⟩
  · rcases RE (mc := sww H y mc) (σ := σ) (D := D) (e := e) (G := G) (V := V) (tsz a + 1) a (by omega) 0 dep p1 r (by decide) h hp0 hr s m E R.rx hb (by omega) hD with ⟨b1, X⟩ | B
    · left
      refine ⟨b1, SR_Fm R f1 (Int.le_refl _) X (LkB_xE (mc := sww H y mc) (n := (y.1.length : Int)) R.hl.2 (by have := R.hl; omega) a s R.lk), ?_⟩
      exact xE_pu (mc := sww H y mc) (tsz a + 1) a (by omega) 0 dep p1 r (by decide) h s hr0
    · exact Or.inr B
theorem nxP_in {e p q : Int} {m : Mem} (h0 : 0 ≤ p) (h1 : p ≤ e) (h2 : m 158 15 = 0 → p = q) (h3 : q + 1 ≤ e) : 0 ≤ nxP m p ∧ nxP m p ≤ e ∧ (m 158 15 = 0 → nxP m p = q + 1) := by
  unfold nxP
  split
  · have := h2 (by assumption)
    exact ⟨by omega, by omega, fun _ => by omega⟩
  · exact ⟨h0, h1, fun z => absurd z (by assumption)⟩
end Exs
