/-! THE ORDERS ARE TYPED: statements -/
def XC0 (m : Mem) (e : Int) : Prop := (∀ id, (kI m id = 1 ∨ kI m id = 2 → 0 ≤ nmI m id ∧ nmI m id < m 57 5) ∧ (kI m id = 1 → m 63 (nmI m id).toNat = 1) ∧ (kI m id = 3 → 1 ≤ nmI m id ∧ nmI m id ≤ m 57 6) ∧ (kI m id = 4 → 0 ≤ nmI m id ∧ nmI m id < m 57 7)) ∧ (∀ i, 0 ≤ i → i < e → kd m i = 3 → 0 ≤ idT m i ∧ idT m i ≤ 32767) ∧ e < m 51 5 ∧ (∀ i, 0 ≤ i → i ≤ e → m 54 i.toNat ≤ 3000)
section Tsu
variable {m : Mem} {p0 H e : Int} {b0 : Nat} {X X1 X2 : Nat → Prop} {U U1 U2 : Int → Prop} {c c1 c2 : zS} {s s1 s2 : xSt} {y y1 y2 : yS} {V : Int → Int} {dd bb lq : Int}
theorem TQ.le (h : TQ m p0 b0 H X U c c1 dd bb lq) : c.1.1.length ≤ c1.1.1.length := h.1.1
theorem TQ.len (h : TQ m p0 b0 H X U c c1 dd bb lq) : (c1.1.1.length : Int) ≤ (c.1.1.length : Int) + bb := h.1.2
theorem TQ.pre (h : TQ m p0 b0 H X U c c1 dd bb lq) : ∀ k, k < c.1.1.length → c1.1.1.getD k (0, 0, 0) = c.1.1.getD k (0, 0, 0) := h.2.1
theorem TQ.dl (h : TQ m p0 b0 H X U c c1 dd bb lq) : c1.1.2.1 = c.1.2.1 + dd := h.2.2.1
theorem TQ.hi (h : TQ m p0 b0 H X U c c1 dd bb lq) : HI m c1.1 := h.2.2.2.1
theorem TQ.lle (h : TQ m p0 b0 H X U c c1 dd bb lq) : c.2.1.length ≤ c1.2.1.length := h.2.2.2.2.2.1.1
theorem TQ.lb (h : TQ m p0 b0 H X U c c1 dd bb lq) : (c1.2.1.length : Int) ≤ (c.2.1.length : Int) + lq := h.2.2.2.2.2.1.2
theorem TQ.kp (h : TQ m p0 b0 H X U c c1 dd bb lq) : ∀ k, k < c.2.1.length → ¬ X k → c1.2.1.getD k 0 = c.2.1.getD k 0 := h.2.2.2.2.2.2.1.1
theorem TQ.yl (h : TQ m p0 b0 H X U c c1 dd bb lq) : YL m c1.2 := h.2.2.2.2.2.2.2.1.1
theorem TQ.cn (h : TQ m p0 b0 H X U c c1 dd bb lq) : c1.2.2.1 ≤ c.2.2.1 + bb := h.2.2.2.2.2.2.2.1.2.1
theorem TQ.cn2 (h : TQ m p0 b0 H X U c c1 dd bb lq) : c.2.2.1 ≤ c1.2.2.1 := h.2.2.2.2.2.2.2.1.2.2.1
theorem TQ_Sd {l : Int} (h : TQ m p0 b0 H X U c c1 dd bb lq) (hs : Sd m b0 c.1 c.2 l) (hx : ¬ X l.toNat) : Sd m b0 c1.1 c1.2 l := Sd_mo hs h.le h.pre h.lle (h.kp _ (by have := hs.1; omega) hx)
theorem XCw (C : XC0 m e) (hY : YL m y) : XC (sww H y m) e y.2.2.2.2 := by
  obtain ⟨c1, c2, c3, c4⟩ := C
  refine ⟨c1, c2, c3, c4, fun id => ?_⟩
  rw [lI_sw]
  by_cases h : id < 0 ∨ m 57 4 ≤ id
  · exact Or.inl (if_pos h)
  · rw [if_neg h]
    rcases hY.2 id.toNat (by omega) with z | ⟨z1, z2, z3⟩
    · exact Or.inl z
    · have := hY.1
      exact Or.inr ⟨z1, by omega⟩
theorem HI_w {Hh : Int} (h : HI m s) : HI (sww Hh y m) s := by
  unfold HI
  rw [hgt_w]
  exact h
theorem QX (C : XC0 m e) (hY : YL m y) {a : xT} {nt : Nat} {dep pa ra : Int} (hnt : nt ≤ 7) (h24 : nt ≠ 2 ∧ nt ≠ 4) (hP : P (kd m) V a nt dep pa ra) (h0 : 0 ≤ pa) (he : ra ≤ e) (hI : HI m s) (hl : (s.1.length : Int) + (ra - pa) ≤ 2990) (hz : 0 ≤ s.2.1 ∧ s.2.1 + (ra - pa) ≤ 2990) (nf : NF (xE (sww H y m) a s)) : (0 ≤ dl nt a ∧ dl nt a ≤ ra - pa) ∧ TX (sww H y m) p0 y.2.2.2.2 H s (xE (sww H y m) a s) (dl nt a) (ra - pa) :=
  XT (V := V) (XCw C hY) rfl (tsz a + 1) a (by omega) nt dep pa ra hnt hP h0 he s (HI_w hI) hl hz.1 (fun w => by omega) hz.2 nf
theorem us_n0 (C : XC0 m e) {i k : Int} (h0 : 0 ≤ i) (h1 : i ≤ e) (h : NF (us m i k s)) : kI m (idT m i) = k ∧ us m i k s = s := by
  unfold us at h ⊢
  by_cases c : kI m (idT m i) = k
  · rw [if_pos c]
    exact ⟨c, rfl⟩
  · rw [if_neg c] at h
    exfalso
    have h2 : 3001 ≤ (if (0 ≤ i ∧ i < m 51 5) ∧ m 54 i.toNat < s.2.2.2.1 then m 54 i.toNat else s.2.2.2.1) := h.1
    have h3 := C.2.2.2 i h0 h1
    have h4 := C.2.2.1
    by_cases d : (0 ≤ i ∧ i < m 51 5) ∧ m 54 i.toNat < s.2.2.2.1
    · rw [if_pos d] at h2
      omega
    · rw [if_neg d] at h2
      exact d ⟨⟨h0, by omega⟩, by omega⟩
theorem bl_n0 (C : XC0 m e) {i : Int} (h0 : 0 ≤ i) (h1 : i ≤ e) (h : NF (bl m i s)) : False := by
  have h2 : 3001 ≤ (if (0 ≤ i ∧ i < m 51 5) ∧ m 54 i.toNat < s.2.2.2.1 then m 54 i.toNat else s.2.2.2.1) := h.1
  have h3 := C.2.2.2 i h0 h1
  have h4 := C.2.2.1
  by_cases d : (0 ≤ i ∧ i < m 51 5) ∧ m 54 i.toNat < s.2.2.2.1
  · rw [if_pos d] at h2
    omega
  · rw [if_neg d] at h2
    exact d ⟨⟨h0, by omega⟩, by omega⟩
theorem dup_n0 (C : XC0 m e) {i : Int} (h0 : 0 ≤ i) (h1 : i ≤ e) : ∀ (w : List Int) (s : xSt), NF (dupB m i w s) → dupB m i w s = s
  | [], s => fun _ => rfl
  | j :: r, s => fun h => by
    have e1 : dupB m i (j :: r) s = dupB m i r (if idT m j = idT m i then bl m i s else s) := rfl
    rw [e1] at h ⊢
    have z := dup_n0 C h0 h1 r _ h
    rw [z] at h ⊢
    by_cases c : idT m j = idT m i
    · rw [if_pos c] at h
      exact (bl_n0 C h0 h1 h).elim
    · rw [if_neg c]
theorem tl_n0 (C : XC0 m e) {i : Int} (h0 : 0 ≤ i) (h1 : i ≤ e) (h : NF (tlS m i y s)) : tlS m i y s = s := by
  unfold tlS at h ⊢
  generalize (if idT m i < 0 ∨ m 57 4 ≤ idT m i then (-1 : Int) else y.2.2.1 (idT m i).toNat) = w at *
  by_cases c : kI m (idT m i) = 0 ∧ w = -1
  · rw [if_pos c]
  · rw [if_neg c] at h
    exact (bl_n0 C h0 h1 h).elim
theorem cl_n0 (C : XC0 m e) {i n : Int} (h0 : 0 ≤ i) (h1 : i ≤ e) (h : NF (cl m i n s)) : n = prm m (nmI m (idT m i)) ∧ NF s := by
  have h2 : 3001 ≤ (if n = prm m (nmI m (idT m i)) then s.2.2.2.2 else imin s.2.2.2.2 (plc m i)) := h.2
  by_cases c : n = prm m (nmI m (idT m i))
  · rw [if_pos c] at h2
    exact ⟨c, h.1, h2⟩
  · rw [if_neg c] at h2
    exfalso
    have h3 := C.2.2.2 i h0 h1
    have h4 := C.2.2.1
    have e1 : plc m i = m 54 i.toNat := if_neg (by omega)
    rw [e1] at h2
    unfold imin at h2
    split at h2 <;> omega
theorem NF_dup {i : Int} {w : List Int} (h : NF (dupB m i w s)) : NF s := Qk_dup (Q := fun s1 => NF s1 → NF s) NF_k w s (fun g => g) h
theorem NF_wWs {K : Int → Int} : ∀ (k : Nat) (t : xT), tsz t < k → ∀ (dep p q : Int), P K V t 11 dep p q → ∀ (w : List Int) (l : Int) (s : xSt), NF (wWs m t w l s) → NF s := by
  intro k
  induction k with
  | zero => intro t ht; exact absurd ht (Nat.not_lt_zero _)
  | succ k ih =>
    intro t ht dep p q h w l s nf
    rcases inv_11 h with ⟨i, a, b, rfl, g1, g2, g3, r, g4, g5⟩ | ⟨i, a, b, rfl, hpq, ho⟩
    · rw [tsz_nd] at ht
      have e0 : wWs m (nd 31 i a b) w l s = wWs m b (w ++ [i + 1]) (l + 1) (dupB m (i + 1) w (em 24 (nmI m (idT m (i + 1))) l (us m (i + 1) 3 s))) := rfl
      rw [e0] at nf
      have n1 := NF_dup (ih b (by omega) _ _ _ g5 _ _ _ nf)
      have n2 : NF (us m (i + 1) 3 s) := n1
      exact NF_us n2
    · exact nf
/-- the orders of whens -/
theorem TQ_wW (C : XC0 m e) : ∀ (k : Nat) (t : xT), tsz t < k → ∀ (dep p q : Int), P (kd m) V t 11 dep p q → 0 ≤ p → q ≤ e → ∀ (w : List Int) (l : Int) (c : zS), HI m c.1 → YL m c.2 → c.1.2.1 = 0 → (c.1.1.length : Int) + (q - p) ≤ 2990 → (∀ x, l ≤ x → x < l + nW t → U x) → NF (wWs m t w l c.1) → TQ m p0 b0 H (fun _ => False) U c (wWs m t w l c.1, c.2) 0 (nW t) 0 := by
  intro k
  induction k with
  | zero => intro t ht; exact absurd ht (Nat.not_lt_zero _)
  | succ k ih =>
    intro t ht dep p q h hp hq w l c hI hY hz hlen hU nf
    rcases inv_11 h with ⟨i, a, b, rfl, g1, g2, g3, r, g4, g5⟩ | ⟨i, a, b, rfl, hpq, ho⟩
    · rw [tsz_nd] at ht
      have l1 := P_le a g4
      have l2 := P_le b g5
      have hbn := (P11_q (tsz b + 1) b (by omega) _ _ _ g5).2
      subst g3
      have e0 : wWs m (nd 31 i a b) w l c.1 = wWs m b (w ++ [i + 1]) (l + 1) (dupB m (i + 1) w (em 24 (nmI m (idT m (i + 1))) l (us m (i + 1) 3 c.1))) := rfl
      have eW : nW (nd 31 i a b) = nW b + 1 := rfl
      rw [e0] at nf ⊢
      rw [eW] at hU ⊢
      have n1 := NF_wWs (tsz b + 1) b (by omega) _ _ _ g5 _ _ _ nf
      have d1 := dup_n0 C (by omega) (by omega) w _ n1
      rw [d1] at nf n1 ⊢
      have n2 : NF (us m (i + 1) 3 c.1) := n1
      obtain ⟨u1, u2⟩ := us_n0 C (by omega) (by omega) n2
      rw [u2] at nf ⊢
      have hv := (C.1 (idT m (i + 1))).2.2.1 u1
      have E := TQ_em (p0 := p0) (b0 := b0) (H := H) (U := U) (c := c) (o := 24) (a := nmI m (idT m (i + 1))) (l := l) hI hY (by omega) (by omega) (by omega) ⟨by omega, by show (0 : Int) ≤ _; omega, by omega, by omega, by omega, by omega, by omega, by omega, fun _ => hv, by omega, fun _ => hz, by omega, by omega⟩ ⟨by omega, fun _ => Or.inl (hU l (by omega) (by omega)), by omega⟩
      have e24 : psh 24 = 0 := rfl
      rw [e24] at E
      have el := E.len
      have ed := E.dl
      have B := ih b (by omega) _ _ _ g5 (by omega) hq (w ++ [i + 1]) (l + 1) (em 24 (nmI m (idT m (i + 1))) l c.1, c.2) E.hi hY (by omega) (by omega) (fun x x1 x2 => hU x (by omega) (by omega)) nf
      exact TQ_X (TQ_b (TQ_tr E B) (by omega) (by omega) (by omega)) (fun k _ => ⟨fun z => z.elim id id, fun z => Or.inl z⟩)
    · exact TQ_b (TQ_rf hI hY) rfl (by show (0 : Int) ≤ ((0 : Nat) : Int); omega) (by omega)
end Tsu
