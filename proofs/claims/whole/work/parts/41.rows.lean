/-! ROWS: the machine at a place with a pure state -/
theorem nrm_ng {cd : xC} {pc n : Nat} {i : Instr} (h : cd pc = some (i, n)) (hi : ∀ o, i ≠ .goto o) (k : Nat) : nrm cd k pc = pc := by
  cases k with
  | zero => rfl
  | succ k =>
    unfold nrm
    rw [h]
    split
    · rename_i off heq
      have h1 := (Prod.mk.inj (Option.some.inj heq)).1
      exact absurd h1 (hi off)
    · rfl
theorem eqv_e {cd : xC} {p q : Nat} (h : eqv cd p q = true) : nrm cd 9 p = nrm cd 9 q := by simpa [eqv] using h
def SRv (r : Nat → Nat) : xL → List Value → Prop
  | [], [] => True
  | a :: as, v :: vs => rel r a.1 a.2 v ∧ SRv r as vs
  | _, _ => False
theorem SR_cons {r : Nat → Nat} {a : Nat × Int} {as : xL} {vs : List Value} (h : SRv r (a :: as) vs) : ∃ v w, vs = v :: w ∧ rel r a.1 a.2 v ∧ SRv r as w := by
  cases vs with
  | nil => exact h.elim
  | cons v w => exact ⟨v, w, rfl, h.1, h.2⟩
theorem SR_sum {r : Nat → Nat} : ∀ {sa : xL} {vs : List Value}, SRv r sa vs → (vs.map fun v => v.category).sum = (sa.map fun a => cat a.1).sum
  | [], [], _ => rfl
  | a :: as, v :: vs, h => by
    simp only [List.map_cons, List.sum_cons]
    rw [rel_cat h.1, SR_sum h.2]
def csz (h : xH) (i : Nat) : Nat := if h.2.1 i < 4 then h.2.2.1 i else ((pCl[h.2.1 i - 10]?).map (fun q => q.2.2)).getD 0
def hslN (h : xH) : Nat → Nat
  | 0 => 0
  | n + 1 => hslN h n + csz h (pS + n)
def hsl (h : xH) : Nat := hslN h (h.1 - pS)
/-- nothing of h goes away, nothing of it changes its kind or length -/
def hx (h h' : xH) : Prop := h.1 ≤ h'.1 ∧ ∀ i, i < h.1 → h'.2.1 i = h.2.1 i ∧ h'.2.2.1 i = h.2.2.1 i
theorem hx_rf {h : xH} : hx h h := ⟨Nat.le_refl _, fun _ _ => ⟨rfl, rfl⟩⟩
theorem hx_tr {a b c : xH} (h1 : hx a b) (h2 : hx b c) : hx a c := ⟨Nat.le_trans h1.1 h2.1, fun i hi => ⟨((h2.2 i (Nat.lt_of_lt_of_le hi h1.1)).1).trans (h1.2 i hi).1, ((h2.2 i (Nat.lt_of_lt_of_le hi h1.1)).2).trans (h1.2 i hi).2⟩⟩
theorem hslN_hx {h h' : xH} (hh : hx h h') : ∀ n, pS + n ≤ h.1 → hslN h' n = hslN h n
  | 0, _ => rfl
  | n + 1, hn => by
    unfold hslN
    rw [hslN_hx hh n (by omega)]
    have := hh.2 (pS + n) (by omega)
    unfold csz
    rw [this.1, this.2]
theorem hslN_mono (h : xH) {a b : Nat} (hab : a ≤ b) : hslN h a ≤ hslN h b := by
  induction b with
  | zero => have : a = 0 := by omega
            subst this; exact Nat.le_refl _
  | succ n ih =>
    by_cases e : a = n + 1
    · subst e; exact Nat.le_refl _
    · exact Nat.le_trans (ih (by omega)) (Nat.le_add_right (hslN h n) (csz h (pS + n)))
theorem hsl_le {h h' : xH} (hs : pS ≤ h.1) (hh : hx h h') : hsl h ≤ hsl h' := by
  unfold hsl
  rw [← hslN_hx hh (h.1 - pS) (by omega)]
  exact hslN_mono h' (by have := hh.1; omega)
theorem hx_put (h : xH) (a k : Nat) (v : Int) : hx h (hput h a k v) := ⟨Nat.le_refl _, fun _ _ => ⟨rfl, rfl⟩⟩
theorem hx_row (h : xH) (a : Nat) (f : Nat → Int) : hx h (hrow h a f) := ⟨Nat.le_refl _, fun _ _ => ⟨rfl, rfl⟩⟩
theorem hx_new (f : xF) (h : xH) (kd n : Nat) : hx h (hnew f h kd n) := by
  refine ⟨Nat.le_succ _, fun i hi => ?_⟩
  have : i ≠ h.1 := by omega
  simp [hnew, this]
theorem hsl_same {h h' : xH} (e0 : h'.1 = h.1) (e1 : h'.2.1 = h.2.1) (e2 : h'.2.2.1 = h.2.2.1) : hsl h' = hsl h := by
  unfold hsl
  rw [e0]
  by_cases hp : pS ≤ h.1
  · exact hslN_hx ⟨by omega, fun i _ => ⟨by rw [e1], by rw [e2]⟩⟩ _ (by omega)
  · have : h.1 - pS = 0 := by omega
    rw [this]; rfl
theorem hsl_new (f : xF) (h : xH) (kd n : Nat) (hs : pS ≤ h.1) : hsl (hnew f h kd n) = hsl h + csz (hnew f h kd n) h.1 := by
  unfold hsl
  have e : (hnew f h kd n).1 - pS = (h.1 - pS) + 1 := by show h.1 + 1 - pS = _; omega
  rw [e]
  show hslN (hnew f h kd n) (h.1 - pS) + csz _ (pS + (h.1 - pS)) = _
  rw [hslN_hx (hx_new f h kd n) _ (by omega), show pS + (h.1 - pS) = h.1 by omega]
section Rows
variable {p : Program} {l : Launch} {e : Env} {R : Room} {s : State} {m : MethodId} {args : Array Value} {below : List Frame} {meth : Method} {c : Code} {Q : State → Prop}
variable {G : xG} {st : xStt} {H0 : Heap} {hE : xH} {cd : xC} {cc : ByteArray}
/-- from every machine at this place that holds this state, with these on the stack: all goes well -/
def At (p : Program) (l : Launch) (e : Env) (R : Room) (s : State) (m : MethodId) (args : Array Value) (below : List Frame) (meth : Method) (c : Code) (Q : State → Prop) (G : xG) (st : xStt) (H0 : Heap) (hE : xH) (cd : xC) (pc : Nat) (x : xS) (sa : xL) : Prop :=
  ∀ (H : Heap) (ls : Array Slot) (locs : List Loc) (vs : List Value), HR G st H0 x.2 H → LR (ro G) x.1 ls → (∀ q ∈ locs, Own G q.base) → SRv (ro G) sa vs → W p l e R s m args below meth c H locs (x.2.1 - hE.1) (hsl x.2 - hsl hE) Q (F0 m (nrm cd 9 pc) ls vs)
abbrev CdOK (cd : xC) (cc : ByteArray) : Prop := ∀ q i n, cd q = some (i, n) → decode cc q = .ok (i, n)
theorem go_nrm (hx : p.tables.exec = Jvm.exec) (hb : c.code = cc) (hcd : CdOK cd cc) {H : Heap} {locs : List Loc} {cells slots : Nat} {ls : Array Slot} {vs : List Value} : ∀ (k pc : Nat), W p l e R s m args below meth c H locs cells slots Q (F0 m (nrm cd k pc) ls vs) → W p l e R s m args below meth c H locs cells slots Q (F0 m pc ls vs) := by
  intro k
  induction k with
  | zero => intro pc h; exact h
  | succ k ih =>
    intro pc h
    unfold nrm at h
    split at h
    · rename_i off heq
      split at h
      · rename_i hp
        refine lv_goto hx hb (hcd _ _ _ heq) (tgt := ((pc : Int) + off).toNat) ?_ (ih _ h)
        omega
      · exact h
    · exact h
/-- a row that goes on: from a place that is no jump to the next one -/
theorem At.row (hx : p.tables.exec = Jvm.exec) (hb : c.code = cc) (hcd : CdOK cd cc) {pc n pc' : Nat} {i : Instr} {x x' : xS} {sa sa' : xL} (hc : cd pc = some (i, n)) (hi : ∀ o, i ≠ .goto o)
    (hk : At p l e R s m args below meth c Q G st H0 hE cd pc' x' sa')
    (h : ∀ (H : Heap) (ls : Array Slot) (locs : List Loc) (vs : List Value), HR G st H0 x.2 H → LR (ro G) x.1 ls → (∀ q ∈ locs, Own G q.base) → SRv (ro G) sa vs →
      (∀ (H' : Heap) (ls' : Array Slot) (locs' : List Loc) (vs' : List Value), HR G st H0 x'.2 H' → LR (ro G) x'.1 ls' → (∀ q ∈ locs', Own G q.base) → SRv (ro G) sa' vs' → W p l e R s m args below meth c H' locs' (x'.2.1 - hE.1) (hsl x'.2 - hsl hE) Q (F0 m pc' ls' vs')) →
      W p l e R s m args below meth c H locs (x.2.1 - hE.1) (hsl x.2 - hsl hE) Q (F0 m pc ls vs)) : At p l e R s m args below meth c Q G st H0 hE cd pc x sa := by
  intro H ls locs vs h1 h2 h3 h4
  rw [nrm_ng hc hi 9]
  exact h H ls locs vs h1 h2 h3 h4 fun H' ls' locs' vs' g1 g2 g3 g4 => go_nrm hx hb hcd 9 pc' (hk H' ls' locs' vs' g1 g2 g3 g4)
end Rows
