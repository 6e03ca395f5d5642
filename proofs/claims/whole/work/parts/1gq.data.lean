/-! CLASS AND MODEL: the data that both lay from -/
theorem usm_vsm {m M : Mem} : ∀ j, (∀ k, k < j → m 63 k = M 168 k) → usm m j = vsm M j
  | 0 => fun _ => rfl
  | j + 1 => fun h => by
    show usm m j + m 63 j = vsm M j + M 168 j
    rw [usm_vsm j (fun k hk => h k (by omega)), h j (by omega)]
theorem tk_len : ∀ (rl : List (List Int)) (p : Nat), p < rl.length → (rl.take (p + 1)).flatten.length = (rl.take p).flatten.length + (rl.getD p []).length
  | [], p => fun h => absurd h (Nat.not_lt_zero _)
  | x :: l, 0 => fun _ => by
    show (x ++ []).length = 0 + x.length
    rw [List.append_nil, Nat.zero_add]
  | x :: l, p + 1 => fun h => by
    have ih := tk_len l p (by have : p + 1 < l.length + 1 := h; omega)
    show (x ++ (l.take (p + 1)).flatten).length = (x ++ (l.take p).flatten).length + (l.getD p []).length
    rw [List.length_append, List.length_append, ih]
    omega
theorem tk_le : ∀ (rl : List (List Int)) (p : Nat), (rl.take p).flatten.length ≤ rl.flatten.length
  | [], p => by
    rw [List.take_nil]
    exact Nat.le_refl _
  | x :: l, 0 => Nat.zero_le _
  | x :: l, p + 1 => by
    have ih := tk_le l p
    show (x ++ (l.take p).flatten).length ≤ (x ++ l.flatten).length
    rw [List.length_append, List.length_append]
    omega
theorem fl_mem {rl : List (List Int)} {k : Nat} (h : k < rl.flatten.length) : ∃ l ∈ rl, rl.flatten.getD k 0 ∈ l := by
  have h1 : rl.flatten.getD k 0 ∈ rl.flatten := by
    rw [List.getD_eq_getElem?_getD, List.getElem?_eq_getElem h]
    exact List.getElem_mem h
  exact List.mem_flatten.1 h1
section Dta
variable {m M mc mr j' m' m5 : Mem} {e : Int} {cd : Nat} {t : xT} {V' : Nat → Int} {σ : Int → Int} {s : tS6}
theorem nmI_b (T : TCs m s) (N : NI s) (hb : s.2.1 ≤ 3000 ∧ s.2.2.1 ≤ 3000 ∧ s.2.2.2.1 ≤ 3000) : ∀ f : Int, -1000000 ≤ nmI m f ∧ nmI m f ≤ 1000000 := fun f => by
  unfold nmI
  by_cases c : f < 0 ∨ m 57 4 ≤ f
  · rw [if_pos c]
    exact ⟨by decide, by decide⟩
  · rw [if_neg c]
    have tt := T.1.2 f (by omega) (by omega)
    by_cases c0 : (look s.1 (m 58 f.toNat)).1 = 0
    · have z := look_z T.1.1 c0
      rw [z] at tt
      have e : m 60 f.toNat = -1 := congrArg Prod.snd tt
      rw [e]
      exact ⟨by decide, by decide⟩
    · obtain ⟨y, hy, hy2⟩ := look_m c0
      rw [← tt] at hy2
      have y2 : y.2.2 = m 60 f.toNat := by rw [hy2]
      obtain ⟨n1, n2, n3, n4⟩ := N.1 y hy
      rw [← y2]
      have hk : y.2.1 = 1 ∨ y.2.1 = 2 ∨ y.2.1 = 3 ∨ y.2.1 = 4 := by omega
      rcases hk with w | w | w | w
      · have := n1 (Or.inl w); omega
      · have := n1 (Or.inr w); omega
      · have := n2 w; omega
      · have := n3 w; omega
theorem mnC_nf (h0 : 0 ≤ m 57 4) (h : mnC m ≠ -1) : fst1 (m 58) 660205 0 (m 57 4).toNat ≠ -1 := by
  intro c
  apply h
  have e1 : idM m 660205 = put (put (put (put (put m 58 (m 57 4).toNat 660205) 59 (m 57 4).toNat 0) 60 (m 57 4).toNat (-1)) 61 (m 57 4).toNat (-1)) 57 4 (m 57 4 + 1) := if_pos c
  have e2 : idv m 660205 = m 57 4 := if_pos c
  have e3 : kI (idM m 660205) (idv m 660205) = 0 := by
    rw [e1, e2]
    unfold kI
    have a1 : put (put (put (put (put m 58 (m 57 4).toNat 660205) 59 (m 57 4).toNat 0) 60 (m 57 4).toNat (-1)) 61 (m 57 4).toNat (-1)) 57 4 (m 57 4 + 1) 57 4 = m 57 4 + 1 := rfl
    rw [a1, if_neg (by omega), put_ss, if_neg (by decide), put_ss, if_neg (by decide), put_ss, if_neg (by decide), put_ss, if_pos rfl, if_pos rfl]
  unfold mnC
  rw [e3]
  exact if_neg (fun w => absurd w.1 (by decide))
/-- distinct conditions are few -/
theorem few (S : SE m M e) (hv : ∀ i, vlT M i = (fun i : Int => mr 163 i.toNat) i) {l : List Int} (R : RsK m e l) (hb : ∀ x ∈ l, 0 ≤ nmI m (idT m x) ∧ nmI m (idT m x) ≤ 30) : l.length ≤ 31 := by
  have h := pig 31 (l.map (fun x => nmI m (idT m x))) ?_ (fun x hx => ?_)
  · rw [List.length_map] at h
    exact h
  · have R2 := R.2
    have key : ∀ x ∈ l, ∀ y ∈ l, nmI m (idT m x) = nmI m (idT m y) → idT m x = idT m y := fun x hx y hy hxy => by
      obtain ⟨a1, a2, a3⟩ := R.1 x hx
      obtain ⟨b1, b2, b3⟩ := R.1 y hy
      obtain ⟨c1, c2, c3, c4, c5, c6, c7⟩ := S.nm x a1.1 a1.2 a2
      obtain ⟨d1, d2, d3, d4, d5, d6, d7⟩ := S.nm y b1.1 b1.2 b2
      have i1 := (c1 3 (by decide)).1 a3
      have i2 := (d1 3 (by decide)).1 b3
      have n1 : nmI m (idT m x) = inX M (vlT M x) := c2 (Int.not_lt.mp (fun z => by have := c4.2 z; omega))
      have n2 : nmI m (idT m y) = inX M (vlT M y) := d2 (Int.not_lt.mp (fun z => by have := d4.2 z; omega))
      have ec := S.ci (vlT M x) (vlT M y) i1 i2 (by rw [← n1, ← n2]; exact hxy)
      exact S.ij _ _ c5 c6 d5 d6 (by rw [c7, d7, ec])
    clear hb
    have go : ∀ l2 : List Int, (∀ x ∈ l2, x ∈ l) → (l2.map (idT m)).Nodup → (l2.map (fun x => nmI m (idT m x))).Nodup := by
      intro l2
      induction l2 with
      | nil => intro _ _; exact List.nodup_nil
      | cons x r ih =>
        intro hs hd
        have hd : (idT m x :: r.map (idT m)).Nodup := hd
        obtain ⟨h1, h2⟩ := List.nodup_cons.1 hd
        show (nmI m (idT m x) :: r.map (fun x => nmI m (idT m x))).Nodup
        refine List.nodup_cons.2 ⟨fun hm => ?_, ih (fun y hy => hs y (List.mem_cons_of_mem _ hy)) h2⟩
        obtain ⟨y, hy, hy2⟩ := List.mem_map.1 hm
        have z := key x (hs x (List.mem_cons_self ..)) y (hs y (List.mem_cons_of_mem _ hy)) hy2.symm
        exact h1 (List.mem_map.2 ⟨y, hy, z.symm⟩)
    exact go l (fun x hx => hx) R2
  · obtain ⟨y, hy, rfl⟩ := List.mem_map.1 hx
    have := hb y hy
    show 0 ≤ nmI m (idT m y) ∧ nmI m (idT m y) < ((31 : Nat) : Int)
    omega
end Dta
