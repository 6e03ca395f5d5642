/-! HOW THE PURE MACHINE LIES IN THE HEAP -/
def rel (ro : Nat → Nat) (t : Nat) (n : Int) (v : Value) : Prop := match t with
  | 0 => ∃ x : Int32, v = .int x ∧ n = x.toInt
  | 1 => ∃ x : Int64, v = .long x ∧ n = x.toInt
  | 2 => (n = -1 ∧ v = .null) ∨ (n = -2 ∧ (v = .null ∨ ∃ a : Nat, v = .ref a)) ∨ ∃ k : Nat, n = (k : Int) ∧ v = .ref (ro k)
  | _ => False
/-- classes and slots; array classes; where what is not one's own lies; how large the heap was -/
abbrev xG : Type := va_G × (Nat → ClassId) × (Nat → Nat) × Nat
def ro (G : xG) (k : Nat) : Nat := if k < pS then G.2.2.1 k else G.2.2.2 + (k - pS)
abbrev Own (G : xG) : Nat → Prop := fun q => G.2.2.2 ≤ q
def aty (kd : Nat) : Nat := if kd = 1 then 1 else 0
def aft (kd : Nat) : FieldType := match kd with
  | 0 => .int
  | 1 => .long
  | 2 => .byte
  | _ => .boolean
def cellOK (G : xG) (h : xH) (H : Heap) (i : Nat) : Prop :=
  (h.2.1 i < 4 ∧ h.2.2.1 i ≤ 100000 ∧ ∃ F : Nat → Value, H[ro G i]? = some (arrV (G.2.1 (h.2.1 i)) (h.2.2.1 i) F) ∧ ∀ j, j < h.2.2.1 i → rel (ro G) (aty (h.2.1 i)) (h.2.2.2 i j) (F j)) ∨
  (∃ (c : Nat) (q : vw_C), h.2.1 i = 10 + c ∧ pCl[c]? = some q ∧ ∃ V : Nat → Value, t_OB (ro G i) (G.1.1 c) q.2.2 (G.1.2 c) H V ∧ ∀ k, k < q.2.2 → rel (ro G) (rty (pft c k)) (h.2.2.2 i k) (V k))
/-- what is not one's own: kinds, lengths, contents -/
abbrev xStt : Type := (Nat → Nat) × (Nat → Nat) × (Nat → Nat → Int)
def HR (G : xG) (st : xStt) (H0 : Heap) (h : xH) (H : Heap) : Prop :=
  pS ≤ h.1 ∧ H.size = G.2.2.2 + (h.1 - pS) ∧ (∀ q, q < G.2.2.2 → H[q]? = H0[q]?) ∧ (∀ i, pS ≤ i → i < h.1 → cellOK G h H i) ∧ ∀ i, i < pS → h.2.1 i = st.1 i ∧ h.2.2.1 i = st.2.1 i ∧ ∀ j, h.2.2.2 i j = st.2.2 i j
theorem ro_own {G : xG} {i : Nat} (h : pS ≤ i) : ro G i = G.2.2.2 + (i - pS) := if_neg (Nat.not_lt.mpr h)
theorem ro_stat {G : xG} {i : Nat} (h : i < pS) : ro G i = G.2.2.1 i := if_pos h
theorem ro_ne {G : xG} {i j : Nat} (hi : pS ≤ i) (hj : pS ≤ j) (h : i ≠ j) : ro G i ≠ ro G j := by
  rw [ro_own hi, ro_own hj]
  omega
theorem ro_ge {G : xG} {i : Nat} (h : pS ≤ i) : G.2.2.2 ≤ ro G i := by
  rw [ro_own h]
  omega
theorem cellOK_kept {G : xG} {h h' : xH} {H H' : Heap} {i : Nat} (hc : cellOK G h H i) (hH : H'[ro G i]? = H[ro G i]?) (h1 : h'.2.1 i = h.2.1 i) (h2 : h'.2.2.1 i = h.2.2.1 i) (h3 : ∀ j, h'.2.2.2 i j = h.2.2.2 i j) : cellOK G h' H' i := by
  unfold cellOK
  rw [h1, h2, hH]
  rcases hc with ⟨a, a2, F, b, d⟩ | ⟨c, q, a, b, V, d, f⟩
  · exact Or.inl ⟨a, a2, F, b, fun j hj => by rw [h3]; exact d j hj⟩
  · exact Or.inr ⟨c, q, a, b, V, d.kept hH, fun k hk => by rw [h3]; exact f k hk⟩
/-- one cell of one's own has changed -/
theorem HR_upd {G : xG} {st : xStt} {H0 H H' : Heap} {h h' : xH} {i : Nat} (hR : HR G st H0 h H) (hi : pS ≤ i) (hi2 : i < h.1) (e0 : h'.1 = h.1) (e1 : h'.2.1 = h.2.1) (e2 : h'.2.2.1 = h.2.2.1) (e3 : ∀ a, a ≠ i → ∀ j, h'.2.2.2 a j = h.2.2.2 a j) (z : H'.size = H.size) (o : ∀ q, q ≠ ro G i → H'[q]? = H[q]?) (hc : cellOK G h' H' i) : HR G st H0 h' H' := by
  obtain ⟨a, b, c, d, f⟩ := hR
  refine ⟨by rw [e0]; exact a, by rw [z, e0]; exact b, fun q hq => ?_, fun j hj hj2 => ?_, fun j hj => ?_⟩
  · rw [o q (fun x => by have := ro_ge (G := G) hi; omega)]
    exact c q hq
  · rw [e0] at hj2
    by_cases hji : j = i
    · rw [hji]; exact hc
    · exact cellOK_kept (d j hj hj2) (o _ (ro_ne hj hi hji)) (by rw [e1]) (by rw [e2]) (e3 j hji)
  · rw [e1, e2]
    refine ⟨(f j hj).1, (f j hj).2.1, fun k => ?_⟩
    rw [e3 j (by omega) k]
    exact (f j hj).2.2 k
/-- one cell more -/
theorem HR_new {G : xG} {st : xStt} {H0 H H' : Heap} {h h' : xH} (hR : HR G st H0 h H) (e0 : h'.1 = h.1 + 1) (e1 : ∀ a, a ≠ h.1 → h'.2.1 a = h.2.1 a) (e2 : ∀ a, a ≠ h.1 → h'.2.2.1 a = h.2.2.1 a) (e3 : ∀ a, a ≠ h.1 → ∀ j, h'.2.2.2 a j = h.2.2.2 a j) (z : H'.size = H.size + 1) (o : ∀ q, q < H.size → H'[q]? = H[q]?) (hc : cellOK G h' H' h.1) : HR G st H0 h' H' := by
  obtain ⟨a, b, c, d, f⟩ := hR
  have hlt : ∀ j, pS ≤ j → j < h.1 → ro G j < H.size := fun j h1 h2 => by rw [ro_own h1, b]; omega
  refine ⟨by rw [e0]; omega, by rw [z, e0, b]; omega, fun q hq => ?_, fun j hj hj2 => ?_, fun j hj => ?_⟩
  · rw [o q (by rw [b]; omega)]
    exact c q hq
  · rw [e0] at hj2
    by_cases hji : j = h.1
    · rw [hji]; exact hc
    · exact cellOK_kept (d j hj (by omega)) (o _ (hlt j hj (by omega))) (e1 j hji) (e2 j hji) (e3 j hji)
  · have hne : j ≠ h.1 := by omega
    rw [e1 j hne, e2 j hne]
    refine ⟨(f j hj).1, (f j hj).2.1, fun k => ?_⟩
    rw [e3 j hne k]
    exact (f j hj).2.2 k
/-- locals: types and numbers -/
def LR (r : Nat → Nat) (L : xL) (ls : Array Slot) : Prop := ls.size = L.length ∧ lv_wf ls ∧ ∀ (i t : Nat) (n : Int), L[i]? = some (t, n) → t < 3 → ∃ v, rel r t n v ∧ ls[i]? = some (.val v)
theorem rel_cat {r : Nat → Nat} {t : Nat} {n : Int} {v : Value} (h : rel r t n v) : v.category = cat t := by
  match t, h with
  | 0, ⟨x, hv, _⟩ => subst hv; rfl
  | 1, ⟨x, hv, _⟩ => subst hv; rfl
  | 2, h =>
    rcases h with ⟨-, hv⟩ | ⟨-, hv | ⟨a, hv⟩⟩ | ⟨k, -, hv⟩ <;> subst hv <;> rfl
theorem rel_lt {r : Nat → Nat} {t : Nat} {n : Int} {v : Value} (h : rel r t n v) : t < 3 := by
  match t, h with
  | 0, _ => decide
  | 1, _ => decide
  | 2, _ => decide
