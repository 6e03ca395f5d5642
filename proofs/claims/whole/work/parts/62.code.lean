/-! THE CODE of every method, decoded; its tree; the check of both (printed by a program) -/
abbrev xCl : Type := List (Nat × List (Nat × Instr × Nat))
def look2 (c : xCl) (q : Nat) : Option (Instr × Nat) := match c with
  | [] => none
  | e :: r => match Nat.blt q e.1 with
    | true => e.2.lookup q
    | false => look2 r q
def dkA (c : xCl) (b : ByteArray) : Bool := c.all (fun e => e.2.all (fun e => decide (decode b e.1 = .ok (e.2.1, e.2.2))))
theorem mem_lookup {α : Type} {q : Nat} {x : α} : ∀ {l : List (Nat × α)}, l.lookup q = some x → (q, x) ∈ l
  | [], h => by cases h
  | (k, y) :: r, h => by
    unfold List.lookup at h
    split at h
    · rename_i z
      have z1 : q = k := by simpa using z
      cases h
      subst z1
      exact List.mem_cons_self
    · exact List.mem_cons_of_mem _ (mem_lookup h)
theorem look2_ok {b : ByteArray} : ∀ {c : xCl}, dkA c b = true → ∀ {q : Nat} {i : Instr} {n : Nat}, look2 c q = some (i, n) → decode b q = .ok (i, n)
  | [], _, q, i, n, h => by cases h
  | e :: r, hd, q, i, n, h => by
    have hd' : (e.2.all (fun e => decide (decode b e.1 = .ok (e.2.1, e.2.2)))) = true ∧ dkA r b = true := by simpa [dkA, List.all_cons] using hd
    unfold look2 at h
    split at h
    · have z := List.all_eq_true.mp hd'.1 _ (mem_lookup h)
      simpa using z
    · exact look2_ok hd'.2 h
def MOK1 (mi : Nat) (x : xMr) : Prop := ∃ (y : MethodName) (b : ByteArray) (ret : Option FieldType) (kind own : Nat) (nm : String) (cd : xC) (q : Nat × Nat), mL[mi]? = some (y, b, x.1, ret) ∧ pmk mi = some (kind, x.2.1, x.2.2.2.1) ∧ cnm[own]? = some nm ∧ y.cls = nm ∧ (∀ q : vw_C, pCl[own]? = some q → q.1 = nm) ∧ CdOK cd b ∧ wfT x.2.2.2.2 = true ∧ kcl (tagT x.2.2.2.2) = 2 ∧ ck pft pfn cd ppl pmk own (decide (y.name = "<init>")) x.2.2.2.1 x.2.2.2.2 0 0 0 0 = some q ∧ plainFor y = true ∧ (kind = 1 → ∃ ci q, x.2.2.1 = ci + 1 ∧ pCl[ci]? = some q ∧ q.1 = y.cls)
theorem cnm_ok : ∀ (own : Nat) (nm : String), cnm[own]? = some nm → ∀ q : vw_C, pCl[own]? = some q → q.1 = nm := by
  intro own nm h1 q h2
  have hl : own < 12 := (List.getElem?_eq_some_iff.mp h2).1
  rcases (show own = 0 ∨ own = 1 ∨ own = 2 ∨ own = 3 ∨ own = 4 ∨ own = 5 ∨ own = 6 ∨ own = 7 ∨ own = 8 ∨ own = 9 ∨ own = 10 ∨ own = 11 by omega) with z | z | z | z | z | z | z | z | z | z | z | z <;> subst z <;> cases h1 <;> cases h2 <;> rfl
theorem mok_mk {mi nL : Nat} {ts : List Nat} {rc rt : Nat} {t : xT} (y : MethodName) (b : ByteArray) (ret : Option FieldType) (kind own : Nat) (nm : String) (c : xCl) (ini : Bool) (h1 : mL[mi]? = some (y, b, nL, ret)) (h2 : pmk mi = some (kind, ts, rt)) (h3 : cnm[own]? = some nm) (h4 : y.cls = nm) (h6 : dkA c b = true) (h7 : wfT t = true) (h8 : kcl (tagT t) = 2) (hini : decide (y.name = "<init>") = ini) (h9 : (ck pft pfn (look2 c) ppl pmk own ini rt t 0 0 0 0).isSome = true) (h10 : plainFor y = true) (h11 : kind = 1 → ∃ ci q, rc = ci + 1 ∧ pCl[ci]? = some q ∧ q.1 = y.cls) : MOK1 mi (nL, ts, rc, rt, t) := by
  obtain ⟨q, hq⟩ := Option.isSome_iff_exists.mp h9
  exact ⟨y, b, ret, kind, own, nm, look2 c, q, h1, h2, h3, h4, cnm_ok own nm h3, fun pc i n h => look2_ok h6 h, h7, h8, by rw [hini]; exact hq, h10, h11⟩
def AllM (k : Nat) (l : List xMr) : Prop := ∀ j x, l[j]? = some x → MOK1 (k + j) x
theorem AllM_nil (k : Nat) : AllM k [] := fun j x h => by simp at h
theorem AllM_cons {k : Nat} {x : xMr} {l : List xMr} (h : MOK1 k x) (hl : AllM (k + 1) l) : AllM k (x :: l) := fun j y hj => by
  cases j with
  | zero => cases hj; exact h
  | succ j =>
    have := hl j y (by simpa using hj)
    rwa [show k + 1 + j = k + (j + 1) by omega] at this
theorem AllM_app {k n : Nat} {l r : List xMr} (hn : l.length = n) (h : AllM k l) (hr : AllM (k + n) r) : AllM k (l ++ r) := fun j y hj => by
  by_cases hlt : j < l.length
  · rw [List.getElem?_append_left hlt] at hj
    exact h j y hj
  · rw [List.getElem?_append_right (by omega)] at hj
    have := hr _ y hj
    rwa [show k + n + (j - l.length) = k + j by omega] at this
