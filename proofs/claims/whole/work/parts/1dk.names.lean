/-! THE NAMES of the class, as the cutting leaves them; the tokens of both, one by one -/
def NmI (m : Mem) : Prop := 5 ≤ m 57 4 ∧ (∀ id : Nat, (id : Int) < m 57 4 → (m 59 id, m 60 id) = look five (m 58 id) ∧ m 61 id = -1) ∧ (∀ a c : Nat, (a : Int) < m 57 4 → (c : Int) < m 57 4 → m 58 a = m 58 c → a = c) ∧ (∀ c ∈ fiveC, ∃ id : Nat, (id : Int) < m 57 4 ∧ m 58 id = c)
theorem five_look (c : Int) (h : c ∉ fiveC) : look five c = (0, -1) := by
  have h1 : (33804981 : Int) ≠ c := fun z => h (by rw [← z]; decide)
  have h2 : (17582276 : Int) ≠ c := fun z => h (by rw [← z]; decide)
  have h3 : (295370117 : Int) ≠ c := fun z => h (by rw [← z]; decide)
  have h4 : (10051963 : Int) ≠ c := fun z => h (by rw [← z]; decide)
  have h5 : (10307774 : Int) ≠ c := fun z => h (by rw [← z]; decide)
  unfold five
  simp only [look, h1, h2, h3, h4, h5, if_false]
theorem fst1_no2 {f : Nat → Int} {c : Int} {n : Nat} (h : fst1 f c 0 n = -1) : ∀ i : Nat, i < n → f i ≠ c := fun i hi e => by
  have := fst1_le (f := f) (c := c) n 0 (i : Int) (by omega) (by omega) (by omega) e
  omega
section Nms
variable {m : Mem} {c : Int}
theorem NmI_b (B : BgI m fiveC) : NmI m := by
  obtain ⟨b1, b2, b3⟩ := B
  have b1' : m 57 4 = 5 := b1
  have d0 := b3 0 (by decide)
  have d1 := b3 1 (by decide)
  have d2 := b3 2 (by decide)
  have d3 := b3 3 (by decide)
  have d4 := b3 4 (by decide)
  have e0 : m 58 0 = 33804981 := d0.1
  have e1 : m 58 1 = 17582276 := d1.1
  have e2 : m 58 2 = 295370117 := d2.1
  have e3 : m 58 3 = 10051963 := d3.1
  have e4 : m 58 4 = 10307774 := d4.1
  refine ⟨by omega, fun id hid => ?_, fun a c ha hc h => ?_, fun c hc => ?_⟩
  · have : id = 0 ∨ id = 1 ∨ id = 2 ∨ id = 3 ∨ id = 4 := by omega
    rcases this with z | z | z | z | z
    · subst z; rw [d0.2.1, d0.2.2.1, e0]; exact ⟨rfl, d0.2.2.2⟩
    · subst z; rw [d1.2.1, d1.2.2.1, e1]; exact ⟨rfl, d1.2.2.2⟩
    · subst z; rw [d2.2.1, d2.2.2.1, e2]; exact ⟨rfl, d2.2.2.2⟩
    · subst z; rw [d3.2.1, d3.2.2.1, e3]; exact ⟨rfl, d3.2.2.2⟩
    · subst z; rw [d4.2.1, d4.2.2.1, e4]; exact ⟨rfl, d4.2.2.2⟩
  · have h1 : a = 0 ∨ a = 1 ∨ a = 2 ∨ a = 3 ∨ a = 4 := by omega
    have h2 : c = 0 ∨ c = 1 ∨ c = 2 ∨ c = 3 ∨ c = 4 := by omega
    rcases h1 with z | z | z | z | z <;> rcases h2 with y | y | y | y | y <;> subst z <;> subst y <;> first | rfl | (exfalso; omega)
  · have : c = 33804981 ∨ c = 17582276 ∨ c = 295370117 ∨ c = 10051963 ∨ c = 10307774 := by
      unfold fiveC at hc
      simpa only [List.mem_cons, List.not_mem_nil, or_false] using hc
    rcases this with z | z | z | z | z
    · exact ⟨0, by omega, by omega⟩
    · exact ⟨1, by omega, by omega⟩
    · exact ⟨2, by omega, by omega⟩
    · exact ⟨3, by omega, by omega⟩
    · exact ⟨4, by omega, by omega⟩
theorem NmI_id (N : NmI m) : NmI (idM m c) ∧ 0 ≤ idv m c ∧ idv m c < idM m c 57 4 ∧ idM m c 58 (idv m c).toNat = c ∧ (∀ id : Nat, (id : Int) < m 57 4 → idM m c 58 id = m 58 id) ∧ m 57 4 ≤ idM m c 57 4 := by
  have N' := N
  obtain ⟨n1, n2, n3, n4⟩ := N'
  unfold idM idv
  by_cases h : fst1 (m 58) c 0 (m 57 4).toNat = -1
  · rw [if_pos h, if_pos h]
    have hno := fst1_no2 h
    generalize hM : put (put (put (put (put m 58 (m 57 4).toNat c) 59 (m 57 4).toNat 0) 60 (m 57 4).toNat (-1)) 61 (m 57 4).toNat (-1)) 57 4 (m 57 4 + 1) = M
    have e4 : M 57 4 = m 57 4 + 1 := by rw [← hM]; rfl
    have r58 : ∀ k, M 58 k = if k = (m 57 4).toNat then c else m 58 k := fun k => by rw [← hM]; rfl
    have r59 : ∀ k, M 59 k = if k = (m 57 4).toNat then 0 else m 59 k := fun k => by rw [← hM]; rfl
    have r60 : ∀ k, M 60 k = if k = (m 57 4).toNat then -1 else m 60 k := fun k => by rw [← hM]; rfl
    have r61 : ∀ k, M 61 k = if k = (m 57 4).toNat then -1 else m 61 k := fun k => by rw [← hM]; rfl
    have o58 : ∀ id : Nat, (id : Int) < m 57 4 → M 58 id = m 58 id := fun id hid => by rw [r58, if_neg (by omega)]
    have s58 : M 58 (m 57 4).toNat = c := by rw [r58, if_pos rfl]
    refine ⟨⟨by omega, fun id hid => ?_, fun a b ha hb e => ?_, fun x hx => ?_⟩, by omega, by omega, s58, o58, by omega⟩
    · by_cases hk : id = (m 57 4).toNat
      · rw [r58, r59, r60, r61, if_pos hk, if_pos hk, if_pos hk, if_pos hk, five_look]
        · exact ⟨rfl, rfl⟩
        · intro hc
          obtain ⟨j, j1, j2⟩ := n4 c hc
          exact hno j (by omega) j2
      · rw [r58, r59, r60, r61, if_neg hk, if_neg hk, if_neg hk, if_neg hk]
        exact n2 id (by omega)
    · rw [r58, r58] at e
      by_cases h1 : a = (m 57 4).toNat
      · by_cases h2 : b = (m 57 4).toNat
        · rw [h1, h2]
        · rw [if_pos h1, if_neg h2] at e
          exact absurd e.symm (hno b (by omega))
      · by_cases h2 : b = (m 57 4).toNat
        · rw [if_neg h1, if_pos h2] at e
          exact absurd e (hno a (by omega))
        · rw [if_neg h1, if_neg h2] at e
          exact n3 a b (by omega) (by omega) e
    · obtain ⟨j, j1, j2⟩ := n4 x hx
      exact ⟨j, by omega, by rw [o58 j j1]; exact j2⟩
  · rw [if_neg h, if_neg h]
    rcases fst1_b (f := m 58) (c := c) (m 57 4).toNat 0 with z | ⟨z1, z2, z3⟩
    · exact absurd z h
    · exact ⟨N, by omega, by omega, z3, fun _ _ => rfl, Int.le_refl _⟩
theorem NmI_cg {m' : Mem} (h4 : m' 57 4 = m 57 4) (h : ∀ k, m' 58 k = m 58 k ∧ m' 59 k = m 59 k ∧ m' 60 k = m 60 k ∧ m' 61 k = m 61 k) (N : NmI m) : NmI m' := by
  obtain ⟨n1, n2, n3, n4⟩ := N
  refine ⟨by omega, fun id hid => ?_, fun a b ha hb e => ?_, fun x hx => ?_⟩
  · rw [(h id).1, (h id).2.1, (h id).2.2.1, (h id).2.2.2]
    exact n2 id (by omega)
  · rw [(h a).1, (h b).1] at e
    exact n3 a b (by omega) (by omega) e
  · obtain ⟨j, j1, j2⟩ := n4 x hx
    exact ⟨j, by omega, by rw [(h j).1]; exact j2⟩
/-- the class's tokens -/
def CI (m : Mem) (l : List (Int × Int × Int × Int)) : Prop := m 51 5 = l.length ∧ NmI m ∧ ∀ i : Nat, i < l.length → m 53 i = clK (l.getD i (0, 0, 0, 0)).1 (l.getD i (0, 0, 0, 0)).2.2.1 ∧ m 54 i = (l.getD i (0, 0, 0, 0)).2.1 ∧ ((l.getD i (0, 0, 0, 0)).1 = 1 → 0 ≤ m 55 i ∧ m 55 i < m 57 4 ∧ m 58 (m 55 i).toNat = (l.getD i (0, 0, 0, 0)).2.2.1) ∧ ((l.getD i (0, 0, 0, 0)).1 = 2 → m 55 i = (l.getD i (0, 0, 0, 0)).2.2.1)
theorem gD_l {α : Type} {l : List α} {x y : α} {i : Nat} (h : i < l.length) : (l ++ [x]).getD i y = l.getD i y := by
  rw [List.getD_eq_getElem?_getD, List.getD_eq_getElem?_getD, List.getElem?_append_left h]
theorem gD_r {α : Type} {l : List α} {x y : α} : (l ++ [x]).getD l.length y = x := by
  rw [List.getD_eq_getElem?_getD, List.getElem?_append_right (Nat.le_refl _), Nat.sub_self]
  rfl
theorem CI_s {l : List (Int × Int × Int × Int)} (t : Int × Int × Int × Int) (C : CI m l) : CI (tkF m t) (l ++ [t]) := by
  obtain ⟨c1, c2, c3⟩ := C
  have hl : (l ++ [t]).length = l.length + 1 := by rw [List.length_append]; rfl
  have e0 : (m 51 5).toNat = l.length := by omega
  unfold tkF
  by_cases h1 : t.1 = 1
  · rw [if_pos h1]
    obtain ⟨k1, k2, k3, k4, k5, k6⟩ := NmI_id (c := t.2.2.1) c2
    generalize hI : idM m t.2.2.1 = I at *
    have i51 : I 51 5 = m 51 5 := by rw [← hI]; exact idM_51
    have o53 : ∀ j k, (j = 53 ∨ j = 54 ∨ j = 55) → I j k = m j k := fun j k hj => by
      rw [← hI]
      unfold idM
      split
      · rw [put_ss, put_ss, put_ss, put_ss, put_ss, if_neg (by omega), if_neg (by omega), if_neg (by omega), if_neg (by omega), if_neg (by omega)]
      · rfl
    have s51 : aF I 2 t.2.1 (idv m t.2.2.1) 51 5 = m 51 5 + 1 := by show I 51 5 + 1 = _; rw [i51]
    have r53 : ∀ k, aF I 2 t.2.1 (idv m t.2.2.1) 53 k = if k = l.length then 2 else m 53 k := fun k => by
      show (if k = (I 51 5).toNat then 2 else I 53 k) = _
      rw [i51, e0, o53 53 k (by omega)]
    have r54 : ∀ k, aF I 2 t.2.1 (idv m t.2.2.1) 54 k = if k = l.length then t.2.1 else m 54 k := fun k => by
      show (if k = (I 51 5).toNat then t.2.1 else I 54 k) = _
      rw [i51, e0, o53 54 k (by omega)]
    have r55 : ∀ k, aF I 2 t.2.1 (idv m t.2.2.1) 55 k = if k = l.length then idv m t.2.2.1 else m 55 k := fun k => by
      show (if k = (I 51 5).toNat then idv m t.2.2.1 else I 55 k) = _
      rw [i51, e0, o53 55 k (by omega)]
    have r4 : aF I 2 t.2.1 (idv m t.2.2.1) 57 4 = I 57 4 := rfl
    have r58 : ∀ k, aF I 2 t.2.1 (idv m t.2.2.1) 58 k = I 58 k := fun k => rfl
    refine ⟨by rw [hl, s51]; omega, NmI_cg rfl (fun k => ⟨rfl, rfl, rfl, rfl⟩) k1, fun i hi => ?_⟩
    by_cases hi2 : i = l.length
    · subst hi2
      rw [gD_r, r53, r54, r55, if_pos rfl, if_pos rfl, if_pos rfl, r58, r4]
      refine ⟨?_, rfl, fun _ => ⟨k2, k3, k4⟩, fun z => by omega⟩
      unfold clK
      rw [h1]
      rfl
    · obtain ⟨d1, d2, d3, d4⟩ := c3 i (by omega)
      rw [gD_l (by omega), r53, r54, r55, if_neg hi2, if_neg hi2, if_neg hi2, r58, r4]
      refine ⟨d1, d2, fun z => ?_, d4⟩
      obtain ⟨x1, x2, x3⟩ := d3 z
      refine ⟨x1, by omega, ?_⟩
      rw [k5 _ (by omega)]
      exact x3
  · rw [if_neg h1]
    have s51 : aF m (clK t.1 t.2.2.1) t.2.1 (if t.1 = 2 then t.2.2.1 else 0) 51 5 = m 51 5 + 1 := rfl
    have r53 : ∀ k, aF m (clK t.1 t.2.2.1) t.2.1 (if t.1 = 2 then t.2.2.1 else 0) 53 k = if k = l.length then clK t.1 t.2.2.1 else m 53 k := fun k => by
      show (if k = (m 51 5).toNat then clK t.1 t.2.2.1 else m 53 k) = _
      rw [e0]
    have r54 : ∀ k, aF m (clK t.1 t.2.2.1) t.2.1 (if t.1 = 2 then t.2.2.1 else 0) 54 k = if k = l.length then t.2.1 else m 54 k := fun k => by
      show (if k = (m 51 5).toNat then t.2.1 else m 54 k) = _
      rw [e0]
    have r55 : ∀ k, aF m (clK t.1 t.2.2.1) t.2.1 (if t.1 = 2 then t.2.2.1 else 0) 55 k = if k = l.length then (if t.1 = 2 then t.2.2.1 else 0) else m 55 k := fun k => by
      show (if k = (m 51 5).toNat then (if t.1 = 2 then t.2.2.1 else 0) else m 55 k) = _
      rw [e0]
    have r4 : aF m (clK t.1 t.2.2.1) t.2.1 (if t.1 = 2 then t.2.2.1 else 0) 57 4 = m 57 4 := rfl
    have r58 : ∀ k, aF m (clK t.1 t.2.2.1) t.2.1 (if t.1 = 2 then t.2.2.1 else 0) 58 k = m 58 k := fun k => rfl
    refine ⟨by rw [hl, s51]; omega, NmI_cg rfl (fun k => ⟨rfl, rfl, rfl, rfl⟩) c2, fun i hi => ?_⟩
    by_cases hi2 : i = l.length
    · subst hi2
      rw [gD_r, r53, r54, r55, if_pos rfl, if_pos rfl, if_pos rfl]
      exact ⟨rfl, rfl, fun z => absurd z h1, fun z => by rw [if_pos z]⟩
    · rw [gD_l (by omega), r53, r54, r55, if_neg hi2, if_neg hi2, if_neg hi2, r58, r4]
      exact c3 i (by omega)
theorem CI_l : ∀ (l l0 : List (Int × Int × Int × Int)) (m : Mem), CI m l0 → CI (tkFs m l) (l0 ++ l)
  | [], l0, m, C => by rw [List.append_nil]; exact C
  | t :: l, l0, m, C => by
    have := CI_l l (l0 ++ [t]) (tkF m t) (CI_s t C)
    rw [List.append_assoc] at this
    exact this
/-- the model's tokens -/
def MI (m : Mem) (l : List (Int × Int × Int × Int)) : Prop := m 158 4 = l.length ∧ ∀ i : Nat, i < l.length → m 161 i = (l.getD i (0, 0, 0, 0)).1 ∧ m 162 i = (l.getD i (0, 0, 0, 0)).2.1 ∧ m 163 i = (l.getD i (0, 0, 0, 0)).2.2.1
theorem MI_s {l : List (Int × Int × Int × Int)} (t : Int × Int × Int × Int) (C : MI m l) : MI (aM m t.1 t.2.1 t.2.2.1) (l ++ [t]) := by
  obtain ⟨c1, c3⟩ := C
  have hl : (l ++ [t]).length = l.length + 1 := by rw [List.length_append]; rfl
  have e0 : (m 158 4).toNat = l.length := by omega
  have s51 : aM m t.1 t.2.1 t.2.2.1 158 4 = m 158 4 + 1 := rfl
  have r53 : ∀ k, aM m t.1 t.2.1 t.2.2.1 161 k = if k = l.length then t.1 else m 161 k := fun k => by
    show (if k = (m 158 4).toNat then t.1 else m 161 k) = _
    rw [e0]
  have r54 : ∀ k, aM m t.1 t.2.1 t.2.2.1 162 k = if k = l.length then t.2.1 else m 162 k := fun k => by
    show (if k = (m 158 4).toNat then t.2.1 else m 162 k) = _
    rw [e0]
  have r55 : ∀ k, aM m t.1 t.2.1 t.2.2.1 163 k = if k = l.length then t.2.2.1 else m 163 k := fun k => by
    show (if k = (m 158 4).toNat then t.2.2.1 else m 163 k) = _
    rw [e0]
  refine ⟨by rw [hl, s51]; omega, fun i hi => ?_⟩
  by_cases hi2 : i = l.length
  · subst hi2
    rw [gD_r, r53, r54, r55, if_pos rfl, if_pos rfl, if_pos rfl]
    exact ⟨rfl, rfl, rfl⟩
  · rw [gD_l (by omega), r53, r54, r55, if_neg hi2, if_neg hi2, if_neg hi2]
    exact c3 i (by omega)
theorem MI_l : ∀ (l l0 : List (Int × Int × Int × Int)) (m : Mem), MI m l0 → MI (aMs m l) (l0 ++ l)
  | [], l0, m, C => by rw [List.append_nil]; exact C
  | t :: l, l0, m, C => by
    have := MI_l l (l0 ++ [t]) (aM m t.1 t.2.1 t.2.2.1) (MI_s t C)
    rw [List.append_assoc] at this
    exact this
end Nms
