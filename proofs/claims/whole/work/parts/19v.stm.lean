/-! CLASS AND MODEL, THE SECOND WALK: statements, what a statement leaves alone -/
def fsB (a k : Nat) : Bool := (a == 172 || a == 176 || a == 177 || a == 178 || a == 179 || a == 181) || (a == 158 && (k == 9 || k == 10 || k == 15 || k == 16 || k == 30 || k == 31 || k == 39 || k == 40 || k == 41 || k == 46 || k == 48 || k == 52 || k == 53))
def FS (m m' : Mem) : Prop := ∀ a k, fsB a k = false → m' a k = m a k
theorem FS_rf {m : Mem} : FS m m := fun _ _ _ => rfl
theorem FS_tr {m m1 m2 : Mem} (h1 : FS m m1) (h2 : FS m1 m2) : FS m m2 := fun a k h => (h2 a k h).trans (h1 a k h)
theorem FS_put {m m1 : Mem} {a k : Nat} {v : Int} (h1 : FS m m1) (h : fsB a k = true) : FS m (put m1 a k v) := fun a' k' g => by
  rw [put_ss]
  by_cases e1 : a' = a
  · subst e1
    rw [if_pos rfl]
    by_cases e2 : k' = k
    · subst e2
      rw [h] at g
      exact absurd g (by decide)
    · rw [if_neg e2]; exact h1 a' k' g
  · rw [if_neg e1]; exact h1 a' k' g
theorem FS_emG {m : Mem} {o a l u : Int} {z : Bool} : FS m (emG m o a l u z) := by
  unfold emG
  split
  · unfold emF
    split
    · exact FS_put (FS_put (FS_put (FS_put (FS_put (FS_put (FS_put FS_rf rfl) rfl) rfl) rfl) rfl) rfl) rfl
    · exact FS_put (FS_put (FS_put (FS_put (FS_put (FS_put FS_rf rfl) rfl) rfl) rfl) rfl) rfl
  · exact FS_rf
theorem FS_bkF {m : Mem} {l : Int} : FS m (bkF m l) := FS_put (FS_put (FS_put FS_rf rfl) rfl) rfl
theorem FS_plM {m : Mem} {n : Int} : FS m (plM m n) := by
  unfold plM
  split
  · split
    · exact FS_rf
    · split
      · exact FS_rf
      · exact FS_bkF
  · exact FS_rf
theorem FS_arM {m : Mem} {n : Int} : FS m (arM m n) := by
  unfold arM
  split
  · split
    · exact FS_rf
    · exact FS_bkF
  · exact FS_rf
theorem FS_clM {m : Mem} {n : Int} : FS m (clM m n) := by
  unfold clM
  split
  · split
    · exact FS_rf
    · exact FS_bkF
  · exact FS_rf
theorem FS_thM {m : Mem} {n p k : Int} : FS m (thM m n p k) := by
  unfold thM
  split
  · exact FS_put FS_rf rfl
  · exact FS_rf
theorem FS_eM : ∀ (t : xT) (m : Mem), FS m (eM t m)
  | .tag k (.nest i (.append a b)), m => by
    have ha := FS_eM a
    have hb := FS_eM b
    unfold eM
    split
    · exact ha m
    · exact FS_tr (FS_tr (ha m) (hb _)) FS_emG
    · exact FS_tr (ha m) (hb _)
    · exact FS_tr (FS_tr (ha m) FS_emG) (hb _)
    · exact FS_tr (ha m) (hb _)
    · exact FS_tr (FS_tr (ha m) FS_emG) (hb _)
    · exact FS_tr (ha m) FS_emG
    · exact ha m
    · exact FS_emG
    · exact FS_emG
    · exact FS_tr FS_plM FS_emG
    · exact FS_tr (FS_tr FS_arM (ha _)) FS_emG
    · exact FS_tr (FS_tr (FS_tr FS_clM (ha _)) FS_thM) FS_emG
    · exact FS_tr (ha m) (hb _)
    · exact FS_tr (ha m) (hb _)
    · exact FS_rf
  | .nil, _ => FS_rf
  | .line, _ => FS_rf
  | .align _, _ => FS_rf
  | .text _, _ => FS_rf
  | .append _ _, _ => FS_rf
  | .group _ _, _ => FS_rf
  | .nest _ _, _ => FS_rf
  | .tag _ .nil, _ => FS_rf
  | .tag _ .line, _ => FS_rf
  | .tag _ (.align _), _ => FS_rf
  | .tag _ (.text _), _ => FS_rf
  | .tag _ (.append _ _), _ => FS_rf
  | .tag _ (.group _ _), _ => FS_rf
  | .tag _ (.tag _ _), _ => FS_rf
  | .tag _ (.nest _ .nil), _ => FS_rf
  | .tag _ (.nest _ .line), _ => FS_rf
  | .tag _ (.nest _ (.align _)), _ => FS_rf
  | .tag _ (.nest _ (.text _)), _ => FS_rf
  | .tag _ (.nest _ (.nest _ _)), _ => FS_rf
  | .tag _ (.nest _ (.group _ _)), _ => FS_rf
  | .tag _ (.nest _ (.tag _ _)), _ => FS_rf
theorem FS_caM {u : Int} {t : xT} {m : Mem} : FS m (caM u t m) := FS_tr (FS_tr (FS_tr FS_clM (FS_eM t _)) FS_thM) FS_emG
/-- what stands over a walk: tokens, tops, in both -/
def SE (mc m : Mem) (e : Int) : Prop := (∀ i, 0 ≤ i → i < e → kd mc i = 2 → (∀ k, k ≠ 0 → (kI mc (idT mc i) = k ↔ isK m (vlT m i) k)) ∧ (0 ≤ topK m (vlT m i) → nmI mc (idT mc i) = inX m (vlT m i)) ∧ (isK m (vlT m i) 4 → prm mc (nmI mc (idT mc i)) = m 170 (inX m (vlT m i)).toNat) ∧ (kI mc (idT mc i) = 0 ↔ topK m (vlT m i) < 0) ∧ 0 ≤ idT mc i ∧ idT mc i < mc 57 4 ∧ mc 58 (idT mc i).toNat = vlT m i) ∧ (∀ i, 0 ≤ i → i < e → kd mc i = 3 → idT mc i = vlT m i) ∧ (∀ i, 0 ≤ i → i ≤ e → mc 54 i.toNat = plT m i ∧ 0 ≤ mc 54 i.toNat ∧ mc 54 i.toNat < 3001) ∧ (∀ i j, 0 ≤ i → i ≤ j → j ≤ e → mc 54 i.toNat ≤ mc 54 j.toNat) ∧ (e < mc 51 5) ∧ (∀ c, isK m c 1 → 0 ≤ inX m c ∧ inX m c < 1000) ∧ (∀ a b : Int, 0 ≤ a → a < mc 57 4 → 0 ≤ b → b < mc 57 4 → mc 58 a.toNat = mc 58 b.toNat → a = b) ∧ (∀ c c1, isK m c 3 → isK m c1 3 → inX m c = inX m c1 → c = c1) ∧ (∀ j, 0 ≤ j → j ≤ e → TR (kd mc j) (m 161 j.toNat) (m 163 j.toNat)) ∧ (∀ c, 0 ≤ topK m c → 0 ≤ inX m c ∧ inX m c < 1600) ∧ (0 ≤ m 158 17 ∧ m 158 17 ≤ 1600) ∧ (m 158 14 = 1) ∧ (e < 1400) ∧ (∀ i j, 0 ≤ i → i < j → j ≤ e → mc 54 i.toNat < mc 54 j.toNat)
theorem SE.nm {mc m : Mem} {e : Int} (R : SE mc m e) : ∀ i, 0 ≤ i → i < e → kd mc i = 2 → (∀ k, k ≠ 0 → (kI mc (idT mc i) = k ↔ isK m (vlT m i) k)) ∧ (0 ≤ topK m (vlT m i) → nmI mc (idT mc i) = inX m (vlT m i)) ∧ (isK m (vlT m i) 4 → prm mc (nmI mc (idT mc i)) = m 170 (inX m (vlT m i)).toNat) ∧ (kI mc (idT mc i) = 0 ↔ topK m (vlT m i) < 0) ∧ 0 ≤ idT mc i ∧ idT mc i < mc 57 4 ∧ mc 58 (idT mc i).toNat = vlT m i := R.1
theorem SE.nb {mc m : Mem} {e : Int} (R : SE mc m e) : ∀ i, 0 ≤ i → i < e → kd mc i = 3 → idT mc i = vlT m i := R.2.1
theorem SE.pl {mc m : Mem} {e : Int} (R : SE mc m e) : ∀ i, 0 ≤ i → i ≤ e → mc 54 i.toNat = plT m i ∧ 0 ≤ mc 54 i.toNat ∧ mc 54 i.toNat < 3001 := R.2.2.1
theorem SE.mo {mc m : Mem} {e : Int} (R : SE mc m e) : ∀ i j, 0 ≤ i → i ≤ j → j ≤ e → mc 54 i.toNat ≤ mc 54 j.toNat := R.2.2.2.1
theorem SE.e5 {mc m : Mem} {e : Int} (R : SE mc m e) : e < mc 51 5 := R.2.2.2.2.1
theorem SE.v1 {mc m : Mem} {e : Int} (R : SE mc m e) : ∀ c, isK m c 1 → 0 ≤ inX m c ∧ inX m c < 1000 := R.2.2.2.2.2.1
theorem SE.ij {mc m : Mem} {e : Int} (R : SE mc m e) : ∀ a b : Int, 0 ≤ a → a < mc 57 4 → 0 ≤ b → b < mc 57 4 → mc 58 a.toNat = mc 58 b.toNat → a = b := R.2.2.2.2.2.2.1
theorem SE.ci {mc m : Mem} {e : Int} (R : SE mc m e) : ∀ c c1, isK m c 3 → isK m c1 3 → inX m c = inX m c1 → c = c1 := R.2.2.2.2.2.2.2.1
theorem SE.tr {mc m : Mem} {e : Int} (R : SE mc m e) : ∀ j, 0 ≤ j → j ≤ e → TR (kd mc j) (m 161 j.toNat) (m 163 j.toNat) := R.2.2.2.2.2.2.2.2.1
theorem SE.wx {mc m : Mem} {e : Int} (R : SE mc m e) : ∀ c, 0 ≤ topK m c → 0 ≤ inX m c ∧ inX m c < 1600 := R.2.2.2.2.2.2.2.2.2.1
theorem SE.tp {mc m : Mem} {e : Int} (R : SE mc m e) : 0 ≤ m 158 17 ∧ m 158 17 ≤ 1600 := R.2.2.2.2.2.2.2.2.2.2.1
theorem SE.fu {mc m : Mem} {e : Int} (R : SE mc m e) : m 158 14 = 1 := R.2.2.2.2.2.2.2.2.2.2.2.1
theorem SE.el {mc m : Mem} {e : Int} (R : SE mc m e) : e < 1400 := R.2.2.2.2.2.2.2.2.2.2.2.2.1
theorem SE.ms {mc m : Mem} {e : Int} (R : SE mc m e) : ∀ i j, 0 ≤ i → i < j → j ≤ e → mc 54 i.toNat < mc 54 j.toNat := R.2.2.2.2.2.2.2.2.2.2.2.2.2
theorem topK_FS {m m' : Mem} {c : Int} (f : FS m m') : topK m' c = topK m c := by
  unfold topK
  have e1 : m' 165 = m 165 := funext fun k => f 165 k rfl
  rw [e1, f 158 17 rfl]
theorem inX_FS {m m' : Mem} {c : Int} (f : FS m m') : inX m' c = inX m c := by
  unfold inX
  rw [topK_FS f, f 167 _ rfl]
theorem isK_FS {m m' : Mem} {c k : Int} (f : FS m m') : isK m' c k ↔ isK m c k := by
  unfold isK
  rw [topK_FS f, f 166 _ rfl]
theorem vlT_FS {m m' : Mem} {i : Int} (f : FS m m') : vlT m' i = vlT m i := f 163 _ rfl
theorem plT_FS {m m' : Mem} {i : Int} (f : FS m m') : plT m' i = plT m i := f 162 _ rfl
theorem SE_FS {mc m m' : Mem} {e : Int} (S : SE mc m e) (f : FS m m') : SE mc m' e := by
  refine ⟨?nm, ?nb, ?pl, S.mo, S.e5, ?v1, S.ij, ?ci, ?tr, ?wx, ?tp, ?fu, S.el, S.ms⟩
  case nm =>
    intro i h0 h1 h2
    have := S.nm i h0 h1 h2
    rw [vlT_FS f, topK_FS f, inX_FS f, f 170 _ rfl]
    refine ⟨fun k hk => (this.1 k hk).trans (isK_FS f).symm, this.2.1, fun z => this.2.2.1 ((isK_FS f).1 z), this.2.2.2⟩
  case nb =>
    intro i h0 h1 h2
    rw [vlT_FS f]; exact S.nb i h0 h1 h2
  case pl =>
    intro i h0 h1
    rw [plT_FS f]; exact S.pl i h0 h1
  case v1 =>
    intro c h
    rw [inX_FS f]; exact S.v1 c ((isK_FS f).1 h)
  case ci =>
    intro c c1 h h1 h2
    rw [inX_FS f, inX_FS f] at h2
    exact S.ci c c1 ((isK_FS f).1 h) ((isK_FS f).1 h1) h2
  case tr =>
    intro j h0 h1
    rw [f 161 _ rfl, f 163 _ rfl]
    exact S.tr j h0 h1
  case wx =>
    intro c h
    rw [topK_FS f] at h
    rw [inX_FS f]
    exact S.wx c h
  case tp =>
    rw [f 158 17 rfl]
    exact S.tp
  case fu =>
    rw [f 158 14 rfl]
    exact S.fu
/-- class and model between statements -/
def SR (mc : Mem) (s : xSt) (y : yS) (m : Mem) (σ : Int → Int) (D : Int) (G : Prop) (H p : Int) : Prop := (RX s m σ D G) ∧ (∀ k, k < s.1.length → (s.1.getD k (0, 0, 0)).2.2 < (y.1.length : Int)) ∧ ((y.1.length : Int) = m 158 46) ∧ (∀ k : Int, 0 ≤ k → k < (y.1.length : Int) → 0 ≤ σ k ∧ σ k < (y.1.length : Int)) ∧ (∀ j k : Int, 0 ≤ j → j < (y.1.length : Int) → 0 ≤ k → k < (y.1.length : Int) → σ j = σ k → j = k) ∧ (∀ k : Nat, k < y.1.length → y.1.getD k 0 ≠ -1 → m 181 (σ k).toNat = y.1.getD k 0) ∧ (σ (-1) = -1) ∧ (m 158 48 = σ H) ∧ (-1 ≤ H ∧ H < (y.1.length : Int)) ∧ (y.2.1 = m 158 30) ∧ (0 ≤ m 158 30 ∧ 2 * m 158 30 ≤ p) ∧ (∀ j : Nat, (j : Int) < m 158 30 → 0 ≤ y.2.2.2.1 j ∧ y.2.2.2.1 j < mc 57 4 ∧ mc 58 (y.2.2.2.1 j).toNat = m 172 j) ∧ (∀ id : Int, 0 ≤ id → id < mc 57 4 → y.2.2.1 id.toNat = lcK m (mc 58 id.toNat)) ∧ (∀ j : Nat, (j : Int) < m 158 30 → lcK m (m 172 j) = j ∧ topK m (m 172 j) < 0) ∧ (y.2.2.2.2 = m 158 31 ∧ m 158 30 ≤ m 158 31 ∧ m 158 31 ≤ 1600) ∧ (mc 68 4 = m 158 33) ∧ (0 ≤ m 158 39 ∧ 3 * m 158 39 ≤ p)
theorem SR.rx {mc : Mem} {s : xSt} {y : yS} {m : Mem} {σ : Int → Int} {D : Int} {G : Prop} {H p : Int} (R : SR mc s y m σ D G H p) : RX s m σ D G := R.1
theorem SR.lk {mc : Mem} {s : xSt} {y : yS} {m : Mem} {σ : Int → Int} {D : Int} {G : Prop} {H p : Int} (R : SR mc s y m σ D G H p) : ∀ k, k < s.1.length → (s.1.getD k (0, 0, 0)).2.2 < (y.1.length : Int) := R.2.1
theorem SR.la {mc : Mem} {s : xSt} {y : yS} {m : Mem} {σ : Int → Int} {D : Int} {G : Prop} {H p : Int} (R : SR mc s y m σ D G H p) : (y.1.length : Int) = m 158 46 := R.2.2.1
theorem SR.lb {mc : Mem} {s : xSt} {y : yS} {m : Mem} {σ : Int → Int} {D : Int} {G : Prop} {H p : Int} (R : SR mc s y m σ D G H p) : ∀ k : Int, 0 ≤ k → k < (y.1.length : Int) → 0 ≤ σ k ∧ σ k < (y.1.length : Int) := R.2.2.2.1
theorem SR.lj {mc : Mem} {s : xSt} {y : yS} {m : Mem} {σ : Int → Int} {D : Int} {G : Prop} {H p : Int} (R : SR mc s y m σ D G H p) : ∀ j k : Int, 0 ≤ j → j < (y.1.length : Int) → 0 ≤ k → k < (y.1.length : Int) → σ j = σ k → j = k := R.2.2.2.2.1
theorem SR.ls {mc : Mem} {s : xSt} {y : yS} {m : Mem} {σ : Int → Int} {D : Int} {G : Prop} {H p : Int} (R : SR mc s y m σ D G H p) : ∀ k : Nat, k < y.1.length → y.1.getD k 0 ≠ -1 → m 181 (σ k).toNat = y.1.getD k 0 := R.2.2.2.2.2.1
theorem SR.s1 {mc : Mem} {s : xSt} {y : yS} {m : Mem} {σ : Int → Int} {D : Int} {G : Prop} {H p : Int} (R : SR mc s y m σ D G H p) : σ (-1) = -1 := R.2.2.2.2.2.2.1
theorem SR.hd {mc : Mem} {s : xSt} {y : yS} {m : Mem} {σ : Int → Int} {D : Int} {G : Prop} {H p : Int} (R : SR mc s y m σ D G H p) : m 158 48 = σ H := R.2.2.2.2.2.2.2.1
theorem SR.hl {mc : Mem} {s : xSt} {y : yS} {m : Mem} {σ : Int → Int} {D : Int} {G : Prop} {H p : Int} (R : SR mc s y m σ D G H p) : -1 ≤ H ∧ H < (y.1.length : Int) := R.2.2.2.2.2.2.2.2.1
theorem SR.ln {mc : Mem} {s : xSt} {y : yS} {m : Mem} {σ : Int → Int} {D : Int} {G : Prop} {H p : Int} (R : SR mc s y m σ D G H p) : y.2.1 = m 158 30 := R.2.2.2.2.2.2.2.2.2.1
theorem SR.l0 {mc : Mem} {s : xSt} {y : yS} {m : Mem} {σ : Int → Int} {D : Int} {G : Prop} {H p : Int} (R : SR mc s y m σ D G H p) : 0 ≤ m 158 30 ∧ 2 * m 158 30 ≤ p := R.2.2.2.2.2.2.2.2.2.2.1
theorem SR.lh {mc : Mem} {s : xSt} {y : yS} {m : Mem} {σ : Int → Int} {D : Int} {G : Prop} {H p : Int} (R : SR mc s y m σ D G H p) : ∀ j : Nat, (j : Int) < m 158 30 → 0 ≤ y.2.2.2.1 j ∧ y.2.2.2.1 j < mc 57 4 ∧ mc 58 (y.2.2.2.1 j).toNat = m 172 j := R.2.2.2.2.2.2.2.2.2.2.2.1
theorem SR.lm {mc : Mem} {s : xSt} {y : yS} {m : Mem} {σ : Int → Int} {D : Int} {G : Prop} {H p : Int} (R : SR mc s y m σ D G H p) : ∀ id : Int, 0 ≤ id → id < mc 57 4 → y.2.2.1 id.toNat = lcK m (mc 58 id.toNat) := R.2.2.2.2.2.2.2.2.2.2.2.2.1
theorem SR.ld {mc : Mem} {s : xSt} {y : yS} {m : Mem} {σ : Int → Int} {D : Int} {G : Prop} {H p : Int} (R : SR mc s y m σ D G H p) : ∀ j : Nat, (j : Int) < m 158 30 → lcK m (m 172 j) = j ∧ topK m (m 172 j) < 0 := R.2.2.2.2.2.2.2.2.2.2.2.2.2.1
theorem SR.lx {mc : Mem} {s : xSt} {y : yS} {m : Mem} {σ : Int → Int} {D : Int} {G : Prop} {H p : Int} (R : SR mc s y m σ D G H p) : y.2.2.2.2 = m 158 31 ∧ m 158 30 ≤ m 158 31 ∧ m 158 31 ≤ 1600 := R.2.2.2.2.2.2.2.2.2.2.2.2.2.2.1
theorem SR.pr {mc : Mem} {s : xSt} {y : yS} {m : Mem} {σ : Int → Int} {D : Int} {G : Prop} {H p : Int} (R : SR mc s y m σ D G H p) : mc 68 4 = m 158 33 := R.2.2.2.2.2.2.2.2.2.2.2.2.2.2.2.1
theorem SR.wh {mc : Mem} {s : xSt} {y : yS} {m : Mem} {σ : Int → Int} {D : Int} {G : Prop} {H p : Int} (R : SR mc s y m σ D G H p) : 0 ≤ m 158 39 ∧ 3 * m 158 39 ≤ p := R.2.2.2.2.2.2.2.2.2.2.2.2.2.2.2.2
section SRs
variable {mc m : Mem} {s : xSt} {y : yS} {σ : Int → Int} {D H p e : Int} {G : Prop}
theorem lcK_i {m : Mem} {c : Int} (h : 0 ≤ lcK m c) : lcK m c < m 158 30 ∧ m 172 (lcK m c).toNat = c := by
  rcases fst1_b (f := m 172) (c := c) (m 158 30).toNat 0 with g | ⟨g1, g2, g3⟩
  · unfold lcK at h
    omega
  · exact ⟨by unfold lcK at h ⊢; omega, g3⟩
theorem lcK_n {m : Mem} {c : Int} (h : ¬ 0 ≤ lcK m c) : lcK m c = -1 := by
  rcases fst1_b (f := m 172) (c := c) (m 158 30).toNat 0 with g | ⟨g1, g2, g3⟩
  · exact g
  · unfold lcK at h
    omega
theorem SR_nl (R : SR mc s y m σ D G H p) (hp : p < 1990) {c : Int} (h : 0 ≤ lcK m c) : topK m c < 0 ∧ lcK m c < 1000 := by
  obtain ⟨h1, h2⟩ := lcK_i h
  have h3 := (R.ld (lcK m c).toNat (by omega)).2
  rw [h2] at h3
  have := R.l0
  exact ⟨h3, by omega⟩
theorem SR_EE (S : SE mc m e) (R : SR mc s y m σ D G H p) (hp : p < 1990) : EE (sww H y mc) m σ e := by
  refine ⟨fun i h0 h1 h2 => ?_, S.nb, S.pl, S.mo, S.e5, R.hd, fun c h => SR_nl R hp h, S.v1, R.s1⟩
  obtain ⟨n1, n2, n3, n4, n5, n6, n7⟩ := S.nm i h0 h1 h2
  refine ⟨n1, n2, ?_, n3⟩
  rw [lI_sw, id_sw, if_neg (by omega), R.lm _ n5 n6, n7]
theorem SR_En (S : SE mc m e) (R : SR mc s y m σ D G H p) (hp : p < 1990) (h15 : m 158 15 = 0 ∨ m 158 15 = 1) (h41 : m 158 41 < 11900) : En (kd mc) e m := by
  refine ⟨⟨S.tp.1, S.tp.2, R.l0.1, by have := R.l0; omega, S.fu, h15, ?_, h41⟩, S.wx, S.tr⟩
  rw [← R.rx.len]
  omega
end SRs
