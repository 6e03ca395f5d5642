/-! FROM THE FIRST WALK TO THE SECOND: what stands over it -/
section Smk
variable {m mc : Mem} {s : tS6} {v : Int → Int} {e : Int}
theorem TS_isK {c k : Int} (T : TS m s) (hk : k ≠ 0) : isK m c k ↔ (look s.1 c).1 = k := by
  unfold isK
  rcases TS_top (c := c) T with ⟨z1, z2⟩ | ⟨z1, z2, z3, z4, z5⟩
  · rw [z1, z2]
    exact ⟨fun z => absurd z.1 (by decide), fun z => absurd z.symm hk⟩
  · rw [z3]
    exact ⟨fun z => z.2, fun z => ⟨z1, z⟩⟩
theorem TS_inX {c : Int} (T : TS m s) (h : 0 ≤ topK m c) : inX m c = (look s.1 c).2 ∧ (c, look s.1 c) ∈ s.1 := by
  unfold inX
  rcases TS_top (c := c) T with ⟨z1, z2⟩ | ⟨z1, z2, z3, z4, z5⟩
  · omega
  · rw [z3]
    rw [z3] at z4
    exact ⟨rfl, z4⟩
theorem getD_el {l : List (Int × Int × Int)} {k : Nat} (h : k < l.length) : l.getD k (0, 0, 0) = l[k] := by
  rw [List.getD_eq_getElem?_getD, List.getElem?_eq_getElem h]
  rfl
theorem TS_ci {c c1 : Int} (T : TS m s) (N : NI s) (h : isK m c 3) (h1 : isK m c1 3) (he : inX m c = inX m c1) : c = c1 := by
  have k1 := (TS_isK T (by decide)).1 h
  have k2 := (TS_isK T (by decide)).1 h1
  have i1 := (TS_inX T h.1).1
  have i2 := (TS_inX T h1.1).1
  rcases TS_top (c := c) T with ⟨z1, z2⟩ | ⟨z1, z2, z3, z4, z5⟩
  · have := h.1; omega
  rcases TS_top (c := c1) T with ⟨w1, w2⟩ | ⟨w1, w2, w3, w4, w5⟩
  · have := h1.1; omega
  have pw := List.pairwise_iff_getElem.1 N.2.1
  rw [getD_el (by omega)] at z5 w5
  by_cases hlt : (topK m c).toNat < (topK m c1).toNat
  · have := pw _ _ (by omega) (by omega) hlt
    rw [z5, w5] at this
    have := this k1 k2
    have e1 : (look s.1 c).2 < (look s.1 c1).2 := this
    omega
  · by_cases hgt : (topK m c1).toNat < (topK m c).toNat
    · have := pw _ _ (by omega) (by omega) hgt
      rw [z5, w5] at this
      have := this k2 k1
      have e1 : (look s.1 c1).2 < (look s.1 c).2 := this
      omega
    · have ee : (topK m c).toNat = (topK m c1).toNat := by omega
      have e3 : s.1[(topK m c).toNat]'(by omega) = s.1[(topK m c1).toNat]'(by omega) := by
        congr 1
      rw [z5, w5] at e3
      exact (Prod.mk.inj e3).1
/-- tokens, names and tops stand, for the second walk -/
theorem SE_mk (hT : TK mc m e) (hV : VC mc v e) (hI : IJ mc) (hC : TCs mc s) (hS : TS m s) (hN : NI s) (hvl : ∀ i, vlT m i = v i) (he : e < 1400) (hpl : ∀ i, 0 ≤ i → i ≤ e → 0 ≤ mc 54 i.toNat ∧ mc 54 i.toNat < 3001) (hms : ∀ i j, 0 ≤ i → i < j → j ≤ e → mc 54 i.toNat < mc 54 j.toNat) (hfu : m 158 14 = 1) (h17 : s.1.length ≤ 1600) (hv1 : s.2.1 ≤ 1000) (hc3 : s.2.2.1 ≤ 1600) (hp4 : s.2.2.2.1 ≤ 1000) : SE mc m e := by
  have hS' := hS
  obtain ⟨t1, t2, t3, t4, t5, t6, t7, t8⟩ := hS'
  obtain ⟨c1, c2, c3, c4, c5, c6, c7, c8⟩ := hC
  refine ⟨fun i h0 h1 h2 => ?_, fun i h0 h1 h2 => ?_, fun i h0 h1 => ?_, fun i j h0 h1 h2 => ?_, hT.2.1, fun c h => ?_, hI, fun c c1 h h1 h2 => TS_ci hS hN h h1 h2, fun j h0 h1 => (hT.2.2.2.2.2 j h0 h1).1, fun c h => ?_, ?_, hfu, he, hms⟩
  · obtain ⟨v1, v2, v3⟩ := (hV i h0 h1).1 h2
    have a1 := c1.2 (idT mc i) v1 v2
    rw [v3] at a1
    have eK : kI mc (idT mc i) = (look s.1 (v i)).1 := by
      have : kI mc (idT mc i) = mc 59 (idT mc i).toNat := if_neg (by omega)
      rw [this, ← a1]
    have eN : nmI mc (idT mc i) = (look s.1 (v i)).2 := by
      have : nmI mc (idT mc i) = mc 60 (idT mc i).toNat := if_neg (by omega)
      rw [this, ← a1]
    rw [hvl]
    refine ⟨fun k hk => by rw [eK]; exact (TS_isK hS hk).symm, fun z => by rw [eN]; exact (TS_inX hS z).1.symm, fun z => ?_, ?_, v1, v2, v3⟩
    · obtain ⟨i1, i2⟩ := TS_inX hS z.1
      have k4 := (TS_isK hS (by decide)).1 z
      have nn := (hN.1 _ i2).2.2.1 k4
      have nn : 0 ≤ (look s.1 (v i)).2 ∧ (look s.1 (v i)).2 < s.2.2.2.1 := nn
      rw [eN, i1]
      unfold prm
      rw [if_neg (by omega), c8 _ (by omega), t8 _ (by omega)]
    · rw [eK]
      rcases TS_top (c := v i) hS with ⟨z1, z2⟩ | ⟨z1, z2, z3, z4, z5⟩
      · rw [z1, z2]
        exact ⟨fun _ => by decide, fun _ => rfl⟩
      · have nn := (hN.1 _ z4).2.2.2
        have nn : 1 ≤ (look s.1 (v i)).1 ∧ (look s.1 (v i)).1 ≤ 4 := nn
        exact ⟨fun z => by omega, fun z => by omega⟩
  · rw [hvl]; exact (hV i h0 h1).2 h2
  · have := hpl i h0 h1
    exact ⟨(hT.2.2.2.2.2 i h0 h1).2.symm, this.1, this.2⟩
  · by_cases hij : i = j
    · subst hij; exact Int.le_refl _
    · exact Int.le_of_lt (hms i j h0 (by omega) h2)
  · obtain ⟨i1, i2⟩ := TS_inX hS h.1
    have k1 := (TS_isK hS (by decide)).1 h
    have nn := (hN.1 _ i2).1 (Or.inl k1)
    have nn : 0 ≤ (look s.1 c).2 ∧ (look s.1 c).2 < s.2.1 := nn
    rw [i1]
    omega
  · obtain ⟨i1, i2⟩ := TS_inX hS h
    obtain ⟨n1, n2, n3, n4, n5⟩ := hN.1 _ i2
    have n4 : 1 ≤ (look s.1 c).1 := n4
    have n5 : (look s.1 c).1 ≤ 4 := n5
    have n1 : (look s.1 c).1 = 1 ∨ (look s.1 c).1 = 2 → 0 ≤ (look s.1 c).2 ∧ (look s.1 c).2 < s.2.1 := n1
    have n2 : (look s.1 c).1 = 3 → 0 ≤ (look s.1 c).2 ∧ (look s.1 c).2 < s.2.2.1 := n2
    have n3 : (look s.1 c).1 = 4 → 0 ≤ (look s.1 c).2 ∧ (look s.1 c).2 < s.2.2.2.1 := n3
    rw [i1]
    have hcs : (look s.1 c).1 = 1 ∨ (look s.1 c).1 = 2 ∨ (look s.1 c).1 = 3 ∨ (look s.1 c).1 = 4 := by omega
    rcases hcs with z | z | z | z
    · have := n1 (Or.inl z); omega
    · have := n1 (Or.inr z); omega
    · have := n2 z; omega
    · have := n3 z; omega
  · rw [t1]; omega
end Smk
