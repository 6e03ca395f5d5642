/-! CLASS AND MODEL, THE SECOND WALK: the relation of their orders -/
def RX (s : xSt) (m : Mem) (σ : Int → Int) (D : Int) (G : Prop) : Prop := ((s.1.length : Int) = m 158 41) ∧ (G → ∀ k, k < s.1.length → m 177 k = (s.1.getD k (0, 0, 0)).1 ∧ m 178 k = (s.1.getD k (0, 0, 0)).2.1 ∧ m 179 k = σ (s.1.getD k (0, 0, 0)).2.2) ∧ (G → s.2.2.2.2 = 3001 → s.2.1 = m 158 52 ∧ s.2.2.1 = m 158 53) ∧ (s.2.2.2.1 = D) ∧ (G → (m 158 16 < 0 ∧ s.2.2.2.2 = 3001) ∨ (0 ≤ m 158 16 ∧ m 158 16 = s.2.2.2.2 ∧ s.2.2.2.2 < 3001))
theorem RX.len {s : xSt} {m : Mem} {σ : Int → Int} {D : Int} {G : Prop} (R : RX s m σ D G) : (s.1.length : Int) = m 158 41 := R.1
theorem RX.ops {s : xSt} {m : Mem} {σ : Int → Int} {D : Int} {G : Prop} (R : RX s m σ D G) : G → ∀ k, k < s.1.length → m 177 k = (s.1.getD k (0, 0, 0)).1 ∧ m 178 k = (s.1.getD k (0, 0, 0)).2.1 ∧ m 179 k = σ (s.1.getD k (0, 0, 0)).2.2 := R.2.1
theorem RX.pus {s : xSt} {m : Mem} {σ : Int → Int} {D : Int} {G : Prop} (R : RX s m σ D G) : G → s.2.2.2.2 = 3001 → s.2.1 = m 158 52 ∧ s.2.2.1 = m 158 53 := R.2.2.1
theorem RX.nf {s : xSt} {m : Mem} {σ : Int → Int} {D : Int} {G : Prop} (R : RX s m σ D G) : s.2.2.2.1 = D := R.2.2.2.1
theorem RX.cf {s : xSt} {m : Mem} {σ : Int → Int} {D : Int} {G : Prop} (R : RX s m σ D G) : G → (m 158 16 < 0 ∧ s.2.2.2.2 = 3001) ∨ (0 ≤ m 158 16 ∧ m 158 16 = s.2.2.2.2 ∧ s.2.2.2.2 < 3001) := R.2.2.2.2
def RY (s : xSt) (m : Mem) (σ : Int → Int) (D : Int) (G : Prop) : Prop := ((s.1.length : Int) = m 158 41) ∧ (G → ∀ k, k < s.1.length → m 177 k = (s.1.getD k (0, 0, 0)).1 ∧ m 178 k = (s.1.getD k (0, 0, 0)).2.1 ∧ m 179 k = σ (s.1.getD k (0, 0, 0)).2.2) ∧ (G → s.2.2.2.2 = 3001 → s.2.2.1 = m 158 53) ∧ (s.2.2.2.1 = D) ∧ (G → (m 158 16 < 0 ∧ s.2.2.2.2 = 3001) ∨ (0 ≤ m 158 16 ∧ m 158 16 = s.2.2.2.2 ∧ s.2.2.2.2 < 3001))
theorem RY.len {s : xSt} {m : Mem} {σ : Int → Int} {D : Int} {G : Prop} (R : RY s m σ D G) : (s.1.length : Int) = m 158 41 := R.1
theorem RY.ops {s : xSt} {m : Mem} {σ : Int → Int} {D : Int} {G : Prop} (R : RY s m σ D G) : G → ∀ k, k < s.1.length → m 177 k = (s.1.getD k (0, 0, 0)).1 ∧ m 178 k = (s.1.getD k (0, 0, 0)).2.1 ∧ m 179 k = σ (s.1.getD k (0, 0, 0)).2.2 := R.2.1
theorem RY.mst {s : xSt} {m : Mem} {σ : Int → Int} {D : Int} {G : Prop} (R : RY s m σ D G) : G → s.2.2.2.2 = 3001 → s.2.2.1 = m 158 53 := R.2.2.1
theorem RY.nf {s : xSt} {m : Mem} {σ : Int → Int} {D : Int} {G : Prop} (R : RY s m σ D G) : s.2.2.2.1 = D := R.2.2.2.1
theorem RY.cf {s : xSt} {m : Mem} {σ : Int → Int} {D : Int} {G : Prop} (R : RY s m σ D G) : G → (m 158 16 < 0 ∧ s.2.2.2.2 = 3001) ∨ (0 ≤ m 158 16 ∧ m 158 16 = s.2.2.2.2 ∧ s.2.2.2.2 < 3001) := R.2.2.2.2
def EE (mc m : Mem) (σ : Int → Int) (e : Int) : Prop := (∀ i, 0 ≤ i → i < e → kd mc i = 2 → (∀ k, k ≠ 0 → (kI mc (idT mc i) = k ↔ isK m (vlT m i) k)) ∧ (0 ≤ topK m (vlT m i) → nmI mc (idT mc i) = inX m (vlT m i)) ∧ lI mc (idT mc i) = lcK m (vlT m i) ∧ (isK m (vlT m i) 4 → prm mc (nmI mc (idT mc i)) = m 170 (inX m (vlT m i)).toNat)) ∧ (∀ i, 0 ≤ i → i < e → kd mc i = 3 → idT mc i = vlT m i) ∧ (∀ i, 0 ≤ i → i ≤ e → mc 54 i.toNat = plT m i ∧ 0 ≤ mc 54 i.toNat ∧ mc 54 i.toNat < 3001) ∧ (∀ i j, 0 ≤ i → i ≤ j → j ≤ e → mc 54 i.toNat ≤ mc 54 j.toNat) ∧ (e < mc 51 5) ∧ (m 158 48 = σ (mc 68 5)) ∧ (∀ c, 0 ≤ lcK m c → topK m c < 0 ∧ lcK m c < 1000) ∧ (∀ c, isK m c 1 → 0 ≤ inX m c ∧ inX m c < 1000) ∧ (σ (-1) = -1)
theorem EE.nm {mc m : Mem} {σ : Int → Int} {e : Int} (R : EE mc m σ e) : ∀ i, 0 ≤ i → i < e → kd mc i = 2 → (∀ k, k ≠ 0 → (kI mc (idT mc i) = k ↔ isK m (vlT m i) k)) ∧ (0 ≤ topK m (vlT m i) → nmI mc (idT mc i) = inX m (vlT m i)) ∧ lI mc (idT mc i) = lcK m (vlT m i) ∧ (isK m (vlT m i) 4 → prm mc (nmI mc (idT mc i)) = m 170 (inX m (vlT m i)).toNat) := R.1
theorem EE.nb {mc m : Mem} {σ : Int → Int} {e : Int} (R : EE mc m σ e) : ∀ i, 0 ≤ i → i < e → kd mc i = 3 → idT mc i = vlT m i := R.2.1
theorem EE.pl {mc m : Mem} {σ : Int → Int} {e : Int} (R : EE mc m σ e) : ∀ i, 0 ≤ i → i ≤ e → mc 54 i.toNat = plT m i ∧ 0 ≤ mc 54 i.toNat ∧ mc 54 i.toNat < 3001 := R.2.2.1
theorem EE.mo {mc m : Mem} {σ : Int → Int} {e : Int} (R : EE mc m σ e) : ∀ i j, 0 ≤ i → i ≤ j → j ≤ e → mc 54 i.toNat ≤ mc 54 j.toNat := R.2.2.2.1
theorem EE.e5 {mc m : Mem} {σ : Int → Int} {e : Int} (R : EE mc m σ e) : e < mc 51 5 := R.2.2.2.2.1
theorem EE.hd {mc m : Mem} {σ : Int → Int} {e : Int} (R : EE mc m σ e) : m 158 48 = σ (mc 68 5) := R.2.2.2.2.2.1
theorem EE.nl {mc m : Mem} {σ : Int → Int} {e : Int} (R : EE mc m σ e) : ∀ c, 0 ≤ lcK m c → topK m c < 0 ∧ lcK m c < 1000 := R.2.2.2.2.2.2.1
theorem EE.v1 {mc m : Mem} {σ : Int → Int} {e : Int} (R : EE mc m σ e) : ∀ c, isK m c 1 → 0 ≤ inX m c ∧ inX m c < 1000 := R.2.2.2.2.2.2.2.1
theorem EE.s1 {mc m : Mem} {σ : Int → Int} {e : Int} (R : EE mc m σ e) : σ (-1) = -1 := R.2.2.2.2.2.2.2.2
theorem EE_Fm {mc m m' : Mem} {σ : Int → Int} {e n : Int} (E : EE mc m σ e) (f : Fm m m' n) : EE mc m' σ e := by
  refine ⟨?nm, ?nb, ?pl, E.mo, E.e5, ?hd, ?nl, ?v1, E.s1⟩
  case nm =>
    intro i h0 h1 h2
    have := E.nm i h0 h1 h2
    rw [vlT_Fm f, topK_Fm f, inX_Fm f, lcK_Fm f, f.1 170 _ (by omega)]
    refine ⟨fun k hk => (this.1 k hk).trans (isK_Fm f).symm, this.2.1, this.2.2.1, fun z => this.2.2.2 ((isK_Fm f).1 z)⟩
  case nb =>
    intro i h0 h1 h2
    rw [vlT_Fm f]; exact E.nb i h0 h1 h2
  case pl =>
    intro i h0 h1
    rw [plT_Fm f]; exact E.pl i h0 h1
  case hd =>
    rw [f.2.1 48 (by decide) (by decide) (by decide) (by decide) (by decide) (by decide) (by decide)]; exact E.hd
  case nl =>
    intro c h
    rw [lcK_Fm f] at h ⊢; rw [topK_Fm f]; exact E.nl c h
  case v1 =>
    intro c h
    rw [inX_Fm f]; exact E.v1 c ((isK_Fm f).1 h)
section Emo
variable {m : Mem} {o a l u : Int}
theorem emF_177 {k : Nat} : emF m o a l u false 177 k = if k = (m 158 41).toNat then o else m 177 k := by
  unfold emF
  rw [if_neg (by decide)]
  simp only [put_ss, Nat.reduceEqDiff, if_false, if_true]
theorem emF_178 {k : Nat} : emF m o a l u false 178 k = if k = (m 158 41).toNat then a else m 178 k := by
  unfold emF
  rw [if_neg (by decide)]
  simp only [put_ss, Nat.reduceEqDiff, if_false, if_true]
theorem emF_179 {k : Nat} : emF m o a l u false 179 k = if k = (m 158 41).toNat then l else m 179 k := by
  unfold emF
  rw [if_neg (by decide)]
  simp only [put_ss, Nat.reduceEqDiff, if_false, if_true]
theorem emF_52 : emF m o a l u false 158 52 = w32 (m 158 52 + u) := by
  unfold emF
  rw [if_neg (by decide)]
  simp only [put_ss, Nat.reduceEqDiff, if_false, if_true]
theorem emF_53 : emF m o a l u false 158 53 = if m 158 53 < w32 (m 158 52 + u) then w32 (m 158 52 + u) else m 158 53 := by
  unfold emF
  rw [if_neg (by decide)]
  simp only [put_ss, Nat.reduceEqDiff, if_false, if_true]
end Emo
section RXs
variable {s : xSt} {m mc : Mem} {σ : Int → Int} {D : Int} {G : Prop}
theorem getD_ap {l : xO} {x : Int × Int × Int} {k : Nat} (h : l.length < 3000) : (ap l x).length = l.length + 1 ∧ (k < l.length → (ap l x).getD k (0, 0, 0) = l.getD k (0, 0, 0)) ∧ (k = l.length → (ap l x).getD k (0, 0, 0) = x) := by
  unfold ap
  rw [if_pos h]
  refine ⟨by rw [List.length_append]; rfl, fun hk => ?_, fun hk => ?_⟩
  · rw [List.getD_eq_getElem?_getD, List.getD_eq_getElem?_getD, List.getElem?_append_left hk]
  · subst hk
    rw [List.getD_eq_getElem?_getD, List.getElem?_append_right (Nat.le_refl _), Nat.sub_self]
    rfl
theorem RY_em {o a l u lm : Int} (R : RY s m σ D G) (hb : m 158 15 = 0) (hn : m 158 41 < 3000) (hu : G → s.2.2.2.2 = 3001 → w32 (s.2.1 + psh o) = w32 (m 158 52 + u)) (hl : lm = σ l) : RX (em o a l s) (emG m o a lm u false) σ D G := by
  have e0 : emG m o a lm u false = emF m o a lm u false := if_pos hb
  rw [e0]
  have hln : s.1.length < 3000 := by have := R.len; omega
  have hl41 : (m 158 41).toNat = s.1.length := by have := R.len; omega
  have q0 := (getD_ap (l := s.1) (x := (o, a, l)) (k := 0) hln).1
  refine ⟨?_, fun g k hk => ?_, fun g hc => ?_, R.nf, fun g => ?_⟩
  · rw [emF_41, ← R.len]
    show ((ap s.1 (o, a, l)).length : Int) = _
    rw [q0]
    omega
  · have hk : k < (ap s.1 (o, a, l)).length := hk
    rw [q0] at hk
    rw [emF_177, emF_178, emF_179, hl41]
    show _ = ((ap s.1 (o, a, l)).getD k (0, 0, 0)).1 ∧ _ = ((ap s.1 (o, a, l)).getD k (0, 0, 0)).2.1 ∧ _ = σ ((ap s.1 (o, a, l)).getD k (0, 0, 0)).2.2
    by_cases hk2 : k = s.1.length
    · rw [(getD_ap hln).2.2 hk2, if_pos hk2, if_pos hk2, if_pos hk2]
      exact ⟨rfl, rfl, hl⟩
    · rw [(getD_ap hln).2.1 (by omega), if_neg hk2, if_neg hk2, if_neg hk2]
      exact R.ops g k (by omega)
  · have hp := R.mst g hc
    have hu := hu g hc
    rw [emF_52, emF_53]
    show w32 (s.2.1 + psh o) = _ ∧ imax s.2.2.1 (w32 (s.2.1 + psh o)) = _
    rw [hu, hp]
    refine ⟨rfl, ?_⟩
    unfold imax
    by_cases hq : w32 (m 158 52 + u) ≤ m 158 53
    · rw [if_pos hq, if_neg (by omega)]
    · rw [if_neg hq, if_pos (by omega)]
  · rw [emF_y 16 (by decide) (by decide) (by decide)]
    exact R.cf g
theorem RX.ry (R : RX s m σ D G) : RY s m σ D G := ⟨R.len, R.ops, fun g h => (R.pus g h).2, R.nf, R.cf⟩
theorem RX_em {o a l u lm : Int} (R : RX s m σ D G) (hb : m 158 15 = 0) (hn : m 158 41 < 3000) (hu : psh o = u) (hl : lm = σ l) : RX (em o a l s) (emG m o a lm u false) σ D G := RY_em R.ry hb hn (fun g h => by rw [(R.pus g h).1, hu]) hl
theorem w32_l {x y : Int} : w32 (w32 x + y) = w32 (x + y) := by
  unfold w32
  simp only [Int.bmod_def]
  split <;> split <;> omega
theorem w32_s {x y : Int} : w32 (x + w32 y) = w32 (x + y) := by
  rw [Int.add_comm, w32_l, Int.add_comm]
end RXs
