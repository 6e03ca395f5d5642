/-! THE ORDERS ARE TYPED: heights of the pile, what orders name; expressions -/
def pops (m : Mem) (o a : Int) : Int := if o = 17 then prm m a else if o = 3 ∨ o = 5 ∨ o = 6 ∨ o = 13 ∨ o = 16 ∨ o = 18 ∨ o = 20 ∨ o = 22 then 1 else if o = 7 ∨ o = 8 ∨ o = 9 ∨ o = 10 ∨ o = 11 ∨ o = 12 ∨ o = 14 then 2 else 0
def hst (m : Mem) (h : Int) (x : Int × Int × Int) : Int := if x.1 = 0 then 0 else h + psh x.1 - (if x.1 = 17 then prm m x.2.1 else 0)
/-- the height of the pile before order k -/
def hgt (m : Mem) (l : xO) : Nat → Int
  | 0 => 0
  | k + 1 => hst m (hgt m l k) (l.getD k (0, 0, 0))
abbrev isR (o : Int) : Prop := o = 6 ∨ o = 7 ∨ o = 8 ∨ o = 9 ∨ o = 10 ∨ o = 11 ∨ o = 12 ∨ o = 13 ∨ o = 17 ∨ o = 19 ∨ o = 21 ∨ o = 25
abbrev isJ (o : Int) : Prop := o = 15 ∨ o = 16 ∨ o = 24
/-- an order of a statement at height h in proc p -/
def OpT (m : Mem) (p ml o a h : Int) : Prop := (1 ≤ o ∧ o ≤ 25) ∧ pops m o a ≤ h ∧ (o = 1 → 0 ≤ a ∧ a ≤ 32767) ∧ (o = 2 ∨ o = 3 → 0 ≤ a ∧ a < ml) ∧ (o = 4 ∨ o = 5 → (0 ≤ a ∧ a < m 57 5) ∧ m 63 a.toNat = 1) ∧ (o = 6 ∨ o = 7 → 0 ≤ a ∧ a < m 57 5) ∧ (o = 14 → 0 ≤ a ∧ a ≤ 5) ∧ (o = 17 → 0 ≤ a ∧ a < m 57 7) ∧ (o = 21 ∨ o = 24 → 1 ≤ a ∧ a ≤ m 57 6) ∧ (o = 22 ∨ o = 23 → a = p) ∧ (o = 15 ∨ o = 23 ∨ o = 24 ∨ o = 25 → h = 0) ∧ (o = 16 → h = 1) ∧ (8 ≤ o ∧ o ≤ 13 ∨ o = 15 ∨ o = 16 ∨ o = 18 ∨ o = 19 ∨ o = 20 ∨ o = 25 → a = 0)
def NF (s : xSt) : Prop := 3001 ≤ s.2.2.2.1 ∧ 3001 ≤ s.2.2.2.2
def HI (m : Mem) (s : xSt) : Prop := s.2.1 = hgt m s.1 s.1.length
def LPx (H o l : Int) : Prop := (isR o → l = H) ∧ ¬ isJ o ∧ (¬ isR o → l = -1)
/-- what an expression reads -/
def XC (m : Mem) (e ml : Int) : Prop := (∀ id, (kI m id = 1 ∨ kI m id = 2 → 0 ≤ nmI m id ∧ nmI m id < m 57 5) ∧ (kI m id = 1 → m 63 (nmI m id).toNat = 1) ∧ (kI m id = 3 → 1 ≤ nmI m id ∧ nmI m id ≤ m 57 6) ∧ (kI m id = 4 → 0 ≤ nmI m id ∧ nmI m id < m 57 7)) ∧ (∀ i, 0 ≤ i → i < e → kd m i = 3 → 0 ≤ idT m i ∧ idT m i ≤ 32767) ∧ e < m 51 5 ∧ (∀ i, 0 ≤ i → i ≤ e → m 54 i.toNat ≤ 3000) ∧ (∀ id, lI m id = -1 ∨ (0 ≤ lI m id ∧ lI m id < ml))
def TX (m : Mem) (p ml H : Int) (s s' : xSt) (δ b : Int) : Prop := (s.1.length ≤ s'.1.length ∧ (s'.1.length : Int) ≤ (s.1.length : Int) + b) ∧ (∀ k, k < s.1.length → s'.1.getD k (0, 0, 0) = s.1.getD k (0, 0, 0)) ∧ s'.2.1 = s.2.1 + δ ∧ HI m s' ∧ (s.2.2.1 ≤ s'.2.2.1 ∧ (s.2.2.1 ≤ 3000 → s'.2.2.1 ≤ 3000)) ∧ (∀ k, s.1.length ≤ k → k < s'.1.length → OpT m p ml (s'.1.getD k (0, 0, 0)).1 (s'.1.getD k (0, 0, 0)).2.1 (hgt m s'.1 k) ∧ hgt m s'.1 (k + 1) ≤ s'.2.2.1 ∧ LPx H (s'.1.getD k (0, 0, 0)).1 (s'.1.getD k (0, 0, 0)).2.2)
section Typ
variable {m : Mem} {p0 ml H e : Int} {s s1 s2 : xSt} {V : Int → Int}
theorem hgt_c {l l2 : xO} : ∀ k, (∀ j, j < k → l2.getD j (0, 0, 0) = l.getD j (0, 0, 0)) → hgt m l2 k = hgt m l k
  | 0 => fun _ => rfl
  | k + 1 => fun h => by
    show hst m (hgt m l2 k) (l2.getD k (0, 0, 0)) = hst m (hgt m l k) (l.getD k (0, 0, 0))
    rw [hgt_c k (fun j hj => h j (by omega)), h k (by omega)]
theorem TX_rf (h : HI m s) : TX m p0 ml H s s 0 0 := ⟨⟨Nat.le_refl _, by omega⟩, fun _ _ => rfl, by omega, h, ⟨Int.le_refl _, fun h => h⟩, fun k a b => absurd a (by omega)⟩
theorem TX_tr {d1 d2 b1 b2 : Int} (h1 : TX m p0 ml H s s1 d1 b1) (h2 : TX m p0 ml H s1 s2 d2 b2) : TX m p0 ml H s s2 (d1 + d2) (b1 + b2) := by
  obtain ⟨⟨a1, a2⟩, a3, a4, a5, a6, a7⟩ := h1
  obtain ⟨⟨c1, c2⟩, c3, c4, c5, c6, c7⟩ := h2
  refine ⟨⟨by omega, by omega⟩, fun k hk => (c3 k (by omega)).trans (a3 k hk), by omega, c5, by omega, fun k k1 k2 => ?_⟩
  by_cases hk : k < s1.1.length
  · obtain ⟨u1, u2, u3⟩ := a7 k k1 hk
    have e1 := c3 k hk
    have e2 := hgt_c (m := m) (l := s1.1) (l2 := s2.1) k (fun j hj => c3 j (by omega))
    have e3 := hgt_c (m := m) (l := s1.1) (l2 := s2.1) (k + 1) (fun j hj => c3 j (by omega))
    rw [e1, e2, e3]
    exact ⟨u1, by omega, u3⟩
  · exact c7 k (by omega) k2
theorem TX_b {d b b2 : Int} (h : TX m p0 ml H s s1 d b) (hb : b ≤ b2) : TX m p0 ml H s s1 d b2 := by
  obtain ⟨⟨a1, a2⟩, a3⟩ := h
  exact ⟨⟨a1, by omega⟩, a3⟩
theorem psh_b {o : Int} (h0 : 1 ≤ o) (h1 : o ≤ 26) : -2 ≤ psh o ∧ psh o ≤ 1 := by
  have h : ∀ k : Nat, k < 27 → -2 ≤ tv_4.getD k 0 ∧ tv_4.getD k 0 ≤ 1 := by decide
  exact h o.toNat (by omega)
theorem imax_l {a b : Int} : a ≤ imax a b ∧ b ≤ imax a b := by
  unfold imax
  split <;> omega
theorem imax_b {a b c : Int} (h1 : a ≤ c) (h2 : b ≤ c) : imax a b ≤ c := by
  unfold imax
  split <;> omega
theorem TX_em {o a l : Int} (hI : HI m s) (h3 : s.1.length < 3000) (hb : -1000000 ≤ s.2.1 ∧ s.2.1 ≤ 2995) (ho : o ≠ 17) (hT : OpT m p0 ml o a s.2.1) (hL : LPx H o l) : TX m p0 ml H s (em o a l s) (psh o) 1 := by
  have hp := psh_b hT.1.1 (by have := hT.1.2; omega)
  have ew : w32 (s.2.1 + psh o) = s.2.1 + psh o := w32_of (by omega) (by omega)
  have q := fun k => getD_ap (l := s.1) (x := (o, a, l)) (k := k) h3
  have hl : (em o a l s).1.length = s.1.length + 1 := (q 0).1
  have pr : ∀ k, k < s.1.length → (em o a l s).1.getD k (0, 0, 0) = s.1.getD k (0, 0, 0) := fun k hk => (q k).2.1 hk
  have hk0 : hgt m (em o a l s).1 s.1.length = s.2.1 := by
    rw [hgt_c (m := m) (l := s.1) s.1.length pr]
    exact hI.symm
  have hx : (em o a l s).1.getD s.1.length (0, 0, 0) = (o, a, l) := (q _).2.2 rfl
  have hk1 : hgt m (em o a l s).1 (s.1.length + 1) = s.2.1 + psh o := by
    show hst m (hgt m (em o a l s).1 s.1.length) ((em o a l s).1.getD s.1.length (0, 0, 0)) = _
    rw [hk0, hx]
    unfold hst
    rw [if_neg (by have := hT.1.1; show ¬ o = 0; omega), if_neg ho]
    show s.2.1 + psh o - 0 = _
    omega
  have hmx : (em o a l s).2.2.1 = imax s.2.2.1 (s.2.1 + psh o) := by
    show imax s.2.2.1 (w32 (s.2.1 + psh o)) = _
    rw [ew]
  have hm := imax_l (a := s.2.2.1) (b := s.2.1 + psh o)
  refine ⟨⟨by omega, by omega⟩, pr, ew, ?_, ⟨by rw [hmx]; exact hm.1, fun w => by rw [hmx]; exact imax_b w (by omega)⟩, fun k k1 k2 => ?_⟩
  · show w32 (s.2.1 + psh o) = hgt m (em o a l s).1 (em o a l s).1.length
    rw [hl, hk1, ew]
  · have hk : k = s.1.length := by omega
    subst hk
    rw [hk0, hk1, hx, hmx]
    exact ⟨hT, hm.2, hL⟩
/-- a call: its arguments stand on the pile -/
theorem TX_cl {i n a : Int} (hI : HI m s) (h3 : s.1.length < 3000) (hb : s.2.1 ≤ 2995) (hn : 0 ≤ n ∧ n ≤ s.2.1) (hp : n = prm m a) (ha : 0 ≤ a ∧ a < m 57 7) : TX m p0 ml H s (em 17 a H (cl m i n s)) (1 - n) 1 := by
  have ew1 : w32 (s.2.1 - n) = s.2.1 - n := w32_of (by omega) (by omega)
  have e17 : psh 17 = 1 := rfl
  have ew : w32 (w32 (s.2.1 - n) + psh 17) = s.2.1 - n + 1 := by rw [ew1, e17]; exact w32_of (by omega) (by omega)
  have q := fun k => getD_ap (l := s.1) (x := (17, a, H)) (k := k) h3
  have hl : (em 17 a H (cl m i n s)).1.length = s.1.length + 1 := (q 0).1
  have pr : ∀ k, k < s.1.length → (em 17 a H (cl m i n s)).1.getD k (0, 0, 0) = s.1.getD k (0, 0, 0) := fun k hk => (q k).2.1 hk
  have hk0 : hgt m (em 17 a H (cl m i n s)).1 s.1.length = s.2.1 := by
    rw [hgt_c (m := m) (l := s.1) s.1.length pr]
    exact hI.symm
  have hx : (em 17 a H (cl m i n s)).1.getD s.1.length (0, 0, 0) = (17, a, H) := (q _).2.2 rfl
  have hk1 : hgt m (em 17 a H (cl m i n s)).1 (s.1.length + 1) = s.2.1 - n + 1 := by
    show hst m (hgt m (em 17 a H (cl m i n s)).1 s.1.length) ((em 17 a H (cl m i n s)).1.getD s.1.length (0, 0, 0)) = _
    rw [hk0, hx]
    show (if (17 : Int) = 0 then 0 else s.2.1 + psh 17 - (if (17 : Int) = 17 then prm m a else 0)) = _
    rw [if_neg (by decide), if_pos rfl, ← hp, e17]
    omega
  have hmx : (em 17 a H (cl m i n s)).2.2.1 = imax s.2.2.1 (s.2.1 - n + 1) := by
    show imax s.2.2.1 (w32 (w32 (s.2.1 - n) + psh 17)) = _
    rw [ew]
  have hm := imax_l (a := s.2.2.1) (b := s.2.1 - n + 1)
  refine ⟨⟨by omega, by omega⟩, pr, ?_, ?_, ⟨by rw [hmx]; exact hm.1, fun w => by rw [hmx]; exact imax_b w (by omega)⟩, fun k k1 k2 => ?_⟩
  · show w32 (w32 (s.2.1 - n) + psh 17) = s.2.1 + (1 - n)
    rw [ew]
    omega
  · show w32 (w32 (s.2.1 - n) + psh 17) = hgt m (em 17 a H (cl m i n s)).1 (em 17 a H (cl m i n s)).1.length
    rw [hl, hk1, ew]
  · have hk : k = s.1.length := by omega
    subst hk
    rw [hk0, hk1, hx, hmx]
    refine ⟨⟨by omega, ?_, by omega, by omega, by omega, by omega, by omega, fun _ => ha, by omega, by omega, by omega, by omega, by omega⟩, hm.2, fun _ => rfl, by omega, fun w => absurd (by omega) w⟩
    show (if (17 : Int) = 17 then prm m a else _) ≤ s.2.1
    rw [if_pos rfl]
    omega
theorem us_nF (C : XC m e ml) {i k : Int} (h0 : 0 ≤ i) (h1 : i ≤ e) (h : NF (us m i k s)) : kI m (idT m i) = k ∧ us m i k s = s := by
  unfold us at h ⊢
  by_cases c : kI m (idT m i) = k
  · rw [if_pos c]
    exact ⟨c, rfl⟩
  · rw [if_neg c] at h
    exfalso
    have h2 : 3001 ≤ (if (0 ≤ i ∧ i < m 51 5) ∧ m 54 i.toNat < s.2.2.2.1 then m 54 i.toNat else s.2.2.2.1) := h.1
    have h3 := C.2.2.2.1 i h0 h1
    have h4 := C.2.2.1
    by_cases d : (0 ≤ i ∧ i < m 51 5) ∧ m 54 i.toNat < s.2.2.2.1
    · rw [if_pos d] at h2
      omega
    · rw [if_neg d] at h2
      exact d ⟨⟨h0, by omega⟩, by omega⟩
theorem cl_nF (C : XC m e ml) {i n : Int} (h0 : 0 ≤ i) (h1 : i ≤ e) (h : NF (cl m i n s)) : n = prm m (nmI m (idT m i)) ∧ NF s := by
  have h2 : 3001 ≤ (if n = prm m (nmI m (idT m i)) then s.2.2.2.2 else imin s.2.2.2.2 (plc m i)) := h.2
  by_cases c : n = prm m (nmI m (idT m i))
  · rw [if_pos c] at h2
    exact ⟨c, h.1, h2⟩
  · rw [if_neg c] at h2
    exfalso
    have h3 := C.2.2.2.1 i h0 h1
    have h4 := C.2.2.1
    have e1 : plc m i = m 54 i.toNat := if_neg (by omega)
    rw [e1] at h2
    unfold imin at h2
    split at h2 <;> omega
theorem NF_k {s0 : xSt} : Qk m (fun s => NF s → NF s0) := by
  refine ⟨fun o a l s h g => h g, fun i s h g => h ⟨?_, g.2⟩, fun i n s h g => h ⟨g.1, ?_⟩⟩
  · have h2 : 3001 ≤ (if (0 ≤ i ∧ i < m 51 5) ∧ m 54 i.toNat < s.2.2.2.1 then m 54 i.toNat else s.2.2.2.1) := g.1
    split at h2 <;> omega
  · have h2 : 3001 ≤ (if n = prm m (nmI m (idT m i)) then s.2.2.2.2 else imin s.2.2.2.2 (plc m i)) := g.2
    split at h2
    · exact h2
    · unfold imin at h2
      split at h2 <;> omega
theorem NF_xE {t : xT} (h : NF (xE m t s)) : NF s := xE_inv (Q := fun s1 => NF s1 → NF s) NF_k t s (fun g => g) h
theorem NF_us {i k : Int} (h : NF (us m i k s)) : NF s := Qk_us (Q := fun s1 => NF s1 → NF s) NF_k (fun g => g) h
theorem TX_d {d d2 b b2 : Int} (h : TX m p0 ml H s s1 d b) (hd : d = d2) (hb : b ≤ b2) : TX m p0 ml H s s1 d2 b2 := by
  subst hd
  exact TX_b h hb
theorem cmp_b {k i : Int} (h : cmpOf k = i) (hn : i ≠ -1) : 0 ≤ i ∧ i ≤ 5 := by
  unfold cmpOf at h
  repeat' split at h
  all_goals omega
theorem OpT_2 {o h : Int} (ho : o = 8 ∨ o = 9 ∨ o = 10 ∨ o = 11 ∨ o = 12) (hh : 2 ≤ h) : OpT m p0 ml o 0 h := by
  rcases ho with rfl | rfl | rfl | rfl | rfl <;> exact ⟨by omega, hh, by omega, by omega, by omega, by omega, by omega, by omega, by omega, by omega, by omega, by omega, fun _ => rfl⟩
def dl (nt : Nat) (t : xT) : Int := if nt = 2 ∨ nt = 4 then 0 else if nt = 6 ∨ nt = 7 then nA t else 1
theorem XT (C : XC m e ml) (hH : m 68 5 = H) : ∀ (k : Nat) (t : xT), tsz t < k → ∀ (nt : Nat) (dep p q : Int), nt ≤ 7 → P (kd m) V t nt dep p q → 0 ≤ p → q ≤ e → ∀ s : xSt, HI m s → (s.1.length : Int) + (q - p) ≤ 2990 → 0 ≤ s.2.1 → (nt = 2 ∨ nt = 4 → 1 ≤ s.2.1) → s.2.1 + (q - p) ≤ 2990 → NF (xE m t s) → (0 ≤ dl nt t ∧ dl nt t ≤ q - p) ∧ TX m p0 ml H s (xE m t s) (dl nt t) (q - p) := by
  intro k
  induction k with
  | zero => intro t ht; exact absurd ht (Nat.not_lt_zero _)
  | succ k ih =>
    intro t ht nt dep p q hnt h hp hq s hI hlen hs0 hs1 hsb nf
    have lpR : ∀ o, isR o → ¬ isJ o → LPx H o H := fun o a b => ⟨fun _ => rfl, b, fun w => absurd a w⟩
    have lpN : ∀ o, ¬ isR o → ¬ isJ o → LPx H o (-1) := fun o a b => ⟨fun w => absurd w a, b, fun _ => rfl⟩
    -- two after one another, an order between them
    have seq : ∀ (a b : xT) (na nb : Nat) (da db pa ra pb : Int), tsz a < k → tsz b < k → na ≤ 7 → nb ≤ 7 → P (kd m) V a na da pa ra → P (kd m) V b nb db pb q → p ≤ pa → ra ≤ pb → (na = 0 ∨ na = 1 ∨ na = 3 ∨ na = 5) → NF (xE m b (xE m a s)) → (0 ≤ 1 + dl nb b ∧ 1 + dl nb b ≤ q - p) ∧ TX m p0 ml H s (xE m b (xE m a s)) (1 + dl nb b) (q - p) := fun a b na nb da db pa ra pb ha hb hna hnb ga gb h1 h2 h3 nf => by
      have l1 := P_le a ga
      have l2 := P_le b gb
      have dA : dl na a = 1 := by
        unfold dl
        rw [if_neg (by omega), if_neg (by omega)]
      obtain ⟨A1, A2⟩ := ih a ha na da pa ra hna ga (by omega) (by omega) s hI (by omega) hs0 (fun w => by omega) (by omega) (NF_xE nf)
      rw [dA] at A1 A2
      have hl := A2.1.2
      have hh := A2.2.2.1
      obtain ⟨B1, B2⟩ := ih b hb nb db pb q hnb gb (by omega) hq (xE m a s) A2.2.2.2.1 (by omega) (by omega) (fun _ => by omega) (by omega) nf
      exact ⟨by omega, TX_b (TX_tr A2 B2) (by omega)⟩
    have seqo : ∀ (a b : xT) (o : Int) (na nb : Nat) (da db ra : Int), tsz a < k → tsz b < k → na ≤ 7 → nb ≤ 7 → P (kd m) V a na da (p + 1) ra → P (kd m) V b nb db ra q → (o = 8 ∨ o = 9 ∨ o = 10 ∨ o = 11 ∨ o = 12) → (na = 3 ∨ na = 5) → (nb = 2 ∨ nb = 4) → 1 ≤ s.2.1 → NF (xE m b (em o 0 (m 68 5) (xE m a s))) → (0 ≤ (0 : Int) ∧ (0 : Int) ≤ q - p) ∧ TX m p0 ml H s (xE m b (em o 0 (m 68 5) (xE m a s))) 0 (q - p) := fun a b o na nb da db ra ha hb hna hnb ga gb ho h3 h4 hs nf => by
      have l1 := P_le a ga
      have l2 := P_le b gb
      have dA : dl na a = 1 := by
        unfold dl
        rw [if_neg (by omega), if_neg (by omega)]
      have dB : dl nb b = 0 := by
        unfold dl
        rw [if_pos (by omega)]
      have po : psh o = -1 := by
        rcases ho with rfl | rfl | rfl | rfl | rfl <;> rfl
      have nf0 : NF (em o 0 (m 68 5) (xE m a s)) := NF_xE nf
      have nf1 : NF (xE m a s) := nf0
      obtain ⟨A1, A2⟩ := ih a ha na da (p + 1) ra hna ga (by omega) (by omega) s hI (by omega) hs0 (fun w => by omega) (by omega) nf1
      rw [dA] at A1 A2
      have hl := A2.1.2
      have hh := A2.2.2.1
      have E := TX_em (p0 := p0) (ml := ml) (H := H) (o := o) (a := 0) (l := m 68 5) A2.2.2.2.1 (by omega) (by omega) (by omega) (OpT_2 ho (by omega)) (by rw [hH]; exact lpR o (by omega) (by omega))
      rw [po] at E
      have hl2 := E.1.2
      have hh2 := E.2.2.1
      obtain ⟨B1, B2⟩ := ih b hb nb db ra q hnb gb (by omega) hq (em o 0 (m 68 5) (xE m a s)) E.2.2.2.1 (by omega) (by omega) (fun _ => by omega) (by omega) nf
      rw [dB] at B2
      exact ⟨by omega, TX_d (TX_tr (TX_tr A2 E) B2) (by omega) (by omega)⟩
    have hc : nt = 0 ∨ nt = 1 ∨ nt = 2 ∨ nt = 3 ∨ nt = 4 ∨ nt = 5 ∨ nt = 6 ∨ nt = 7 := by omega
    rcases hc with rfl | rfl | rfl | rfl | rfl | rfl | rfl | rfl
    · rcases inv_0 h with ⟨i, a, b, rfl, g1, g2⟩ | ⟨i, a, b, rfl, r, g1, g2, g3, g4⟩
      · rw [tsz_nd] at ht
        rw [x_1] at nf ⊢
        exact ih a (by omega) 1 _ _ _ (by omega) g1 hp hq s hI hlen hs0 (fun w => by omega) hsb nf
      · rw [tsz_nd] at ht
        have l1 := P_le a g1
        have l2 := P_le b g4
        rw [x_2] at nf ⊢
        have nf1 : NF (xE m b (xE m a s)) := nf
        obtain ⟨A1, A2⟩ := ih a (by omega) 1 _ _ _ (by omega) g1 hp (by omega) s hI (by omega) hs0 (fun w => by omega) (by omega) (NF_xE nf1)
        have dA : dl 1 a = 1 := rfl
        have dB : dl 1 b = 1 := rfl
        rw [dA] at A1 A2
        have hl := A2.1.2
        have hh := A2.2.2.1
        obtain ⟨B1, B2⟩ := ih b (by omega) 1 _ _ _ (by omega) g4 (by omega) hq (xE m a s) A2.2.2.2.1 (by omega) (by omega) (fun w => by omega) (by omega) nf1
        rw [dB] at B1 B2
        have hl2 := B2.1.2
        have hh2 := B2.2.2.1
        have E := TX_em (p0 := p0) (ml := ml) (H := H) (o := 14) (a := i) (l := -1) B2.2.2.2.1 (by omega) (by omega) (by omega) ⟨by omega, by show (2 : Int) ≤ _; omega, by omega, by omega, by omega, by omega, fun _ => cmp_b g2 g3, by omega, by omega, by omega, by omega, by omega, by omega⟩ (lpN 14 (by omega) (by omega))
        have e14 : psh 14 = -1 := rfl
        rw [e14] at E
        exact ⟨⟨by show (0 : Int) ≤ 1; omega, by show (1 : Int) ≤ _; omega⟩, TX_d (TX_tr (TX_tr A2 B2) E) rfl (by omega)⟩
    · obtain ⟨i, a, b, rfl, r, g1, g2⟩ := inv_1 h
      rw [tsz_nd] at ht
      rw [x_3] at nf ⊢
      exact seq a b 3 2 _ _ p r r (by omega) (by omega) (by omega) (by omega) g1 g2 (by omega) (by omega) (by omega) nf
    · rcases inv_2 h with ⟨i, a, b, rfl, g0, r, g1, g2⟩ | ⟨i, a, b, rfl, g1, g2, g3⟩
      · rw [tsz_nd] at ht
        rw [x_4] at nf ⊢
        exact seqo a b i 3 2 _ _ r (by omega) (by omega) (by omega) (by omega) g1 g2 (by omega) (by omega) (by omega) (hs1 (by omega)) nf
      · rw [x_5]
        exact ⟨⟨by show (0 : Int) ≤ 0; omega, by show (0 : Int) ≤ _; omega⟩, TX_b (TX_rf hI) (by omega)⟩
    · obtain ⟨i, a, b, rfl, r, g1, g2⟩ := inv_3 h
      rw [tsz_nd] at ht
      rw [x_6] at nf ⊢
      exact seq a b 5 4 _ _ p r r (by omega) (by omega) (by omega) (by omega) g1 g2 (by omega) (by omega) (by omega) nf
    · rcases inv_4 h with ⟨i, a, b, rfl, g0, r, g1, g2⟩ | ⟨i, a, b, rfl, g1, g2, g3, g4⟩
      · rw [tsz_nd] at ht
        rw [x_7] at nf ⊢
        exact seqo a b i 5 4 _ _ r (by omega) (by omega) (by omega) (by omega) g1 g2 (by omega) (by omega) (by omega) (hs1 (by omega)) nf
      · rw [x_8]
        exact ⟨⟨by show (0 : Int) ≤ 0; omega, by show (0 : Int) ≤ _; omega⟩, TX_b (TX_rf hI) (by omega)⟩
    · have one : p < q → 0 ≤ dl 5 t ∧ dl 5 t ≤ q - p := fun w => ⟨by show (0 : Int) ≤ 1; omega, by show (1 : Int) ≤ _; omega⟩
      rcases inv_5 h with ⟨i, a, b, rfl, g1, g2, g3⟩ | ⟨i, a, b, rfl, g1, g2, r, g3, g4, g5⟩ | ⟨i, a, b, rfl, g1, g2, g3⟩ | ⟨i, a, b, rfl, g1, g2⟩ | ⟨i, a, b, rfl, g1, g2, g3, g4, g5⟩ | ⟨i, a, b, rfl, g1, g2, g3, g4, r, g5, g6, g7⟩ | ⟨i, a, b, rfl, g1, g2, g3⟩
      · rw [tsz_nd] at ht
        have l1 := P_le a g3
        rw [x_9] at nf ⊢
        have nf1 : NF (xE m a s) := nf
        obtain ⟨A1, A2⟩ := ih a (by omega) 5 _ _ _ (by omega) g3 (by omega) (by omega) s hI (by omega) hs0 (fun w => by omega) (by omega) nf1
        have dA : dl 5 a = 1 := rfl
        rw [dA] at A1 A2
        have hl := A2.1.2
        have hh := A2.2.2.1
        have E := TX_em (p0 := p0) (ml := ml) (H := H) (o := 13) (a := 0) (l := m 68 5) A2.2.2.2.1 (by omega) (by omega) (by omega) ⟨by omega, by show (1 : Int) ≤ _; omega, by omega, by omega, by omega, by omega, by omega, by omega, by omega, by omega, by omega, by omega, fun _ => rfl⟩ (by rw [hH]; exact lpR 13 (by omega) (by omega))
        have e13 : psh 13 = 0 := rfl
        rw [e13] at E
        exact ⟨one (by omega), TX_d (TX_tr A2 E) rfl (by omega)⟩
      · rw [tsz_nd] at ht
        have l1 := P_le a g3
        rw [x_10] at nf ⊢
        obtain ⟨A1, A2⟩ := ih a (by omega) 0 _ _ _ (by omega) g3 (by omega) (by omega) s hI (by omega) hs0 (fun w => by omega) (by omega) nf
        exact ⟨one (by omega), TX_b A2 (by omega)⟩
      · rw [x_11] at nf ⊢
        subst g3
        have hv := C.2.1 i hp (by omega) g1
        have E := TX_em (p0 := p0) (ml := ml) (H := H) (o := 1) (a := idT m i) (l := -1) hI (by omega) (by omega) (by omega) ⟨by omega, by show (0 : Int) ≤ _; omega, fun _ => hv, by omega, by omega, by omega, by omega, by omega, by omega, by omega, by omega, by omega, by omega⟩ (lpN 1 (by omega) (by omega))
        exact ⟨one (by omega), TX_d E rfl (by omega)⟩
      · rw [x_12] at nf ⊢
        have E := TX_em (p0 := p0) (ml := ml) (H := H) (o := 19) (a := 0) (l := m 68 5) hI (by omega) (by omega) (by omega) ⟨by omega, by show (0 : Int) ≤ _; omega, by omega, by omega, by omega, by omega, by omega, by omega, by omega, by omega, by omega, by omega, fun _ => rfl⟩ (by rw [hH]; exact lpR 19 (by omega) (by omega))
        exact ⟨one (by omega), TX_d E rfl (by omega)⟩
      · rw [x_13] at nf ⊢
        subst g5
        by_cases hl : lI m (idT m i) = -1
        · rw [if_pos hl] at nf ⊢
          have nf1 : NF (us m i 1 s) := nf
          obtain ⟨u1, u2⟩ := us_nF C hp (by omega) nf1
          rw [u2]
          have hv := C.1 (idT m i)
          have E := TX_em (p0 := p0) (ml := ml) (H := H) (o := 4) (a := nmI m (idT m i)) (l := -1) hI (by omega) (by omega) (by omega) ⟨by omega, by show (0 : Int) ≤ _; omega, by omega, by omega, fun _ => ⟨hv.1 (Or.inl u1), hv.2.1 u1⟩, by omega, by omega, by omega, by omega, by omega, by omega, by omega, by omega⟩ (lpN 4 (by omega) (by omega))
          exact ⟨one (by omega), TX_d E rfl (by omega)⟩
        · rw [if_neg hl]
          have hv := C.2.2.2.2 (idT m i)
          have E := TX_em (p0 := p0) (ml := ml) (H := H) (o := 2) (a := lI m (idT m i)) (l := -1) hI (by omega) (by omega) (by omega) ⟨by omega, by show (0 : Int) ≤ _; omega, by omega, fun _ => by omega, by omega, by omega, by omega, by omega, by omega, by omega, by omega, by omega, by omega⟩ (lpN 2 (by omega) (by omega))
          exact ⟨one (by omega), TX_d E rfl (by omega)⟩
      · rw [tsz_nd] at ht
        have l1 := P_le a g5
        subst g4
        rw [x_14] at nf ⊢
        have nf1 : NF (xE m a (us m i 2 s)) := nf
        obtain ⟨u1, u2⟩ := us_nF C hp (by omega) (NF_xE nf1)
        rw [u2] at nf1 ⊢
        obtain ⟨A1, A2⟩ := ih a (by omega) 0 _ _ _ (by omega) g5 (by omega) (by omega) s hI (by omega) hs0 (fun w => by omega) (by omega) nf1
        have dA : dl 0 a = 1 := rfl
        rw [dA] at A1 A2
        have hl := A2.1.2
        have hh := A2.2.2.1
        have hv := C.1 (idT m i)
        have E := TX_em (p0 := p0) (ml := ml) (H := H) (o := 6) (a := nmI m (idT m i)) (l := m 68 5) A2.2.2.2.1 (by omega) (by omega) (by omega) ⟨by omega, by show (1 : Int) ≤ _; omega, by omega, by omega, by omega, fun _ => hv.1 (Or.inr u1), by omega, by omega, by omega, by omega, by omega, by omega, by omega⟩ (by rw [hH]; exact lpR 6 (by omega) (by omega))
        have e6 : psh 6 = 0 := rfl
        rw [e6] at E
        exact ⟨one (by omega), TX_d (TX_tr A2 E) rfl (by omega)⟩
      · rw [tsz_nd] at ht
        have l1 := P_le a g3
        subst g2
        rw [x_15] at nf ⊢
        have nf1 : NF (cl m i (nA a) (xE m a (us m i 4 s))) := nf
        have nf2 := (cl_nF C hp (by omega) nf1)
        obtain ⟨u1, u2⟩ := us_nF C hp (by omega) (NF_xE nf2.2)
        rw [u2] at nf1 nf2 ⊢
        obtain ⟨A1, A2⟩ := ih a (by omega) 6 _ _ _ (by omega) g3 (by omega) (by omega) s hI (by omega) hs0 (fun w => by omega) (by omega) nf2.2
        have dA : dl 6 a = nA a := rfl
        rw [dA] at A1 A2
        have hl := A2.1.2
        have hh := A2.2.2.1
        have hv := C.1 (idT m i)
        have E := TX_cl (p0 := p0) (ml := ml) (H := H) (i := i) A2.2.2.2.1 (by omega) (by omega) ⟨A1.1, by omega⟩ nf2.1 (hv.2.2.2 u1)
        rw [hH]
        exact ⟨one (by omega), TX_d (TX_tr A2 E) (by show nA a + (1 - nA a) = 1; omega) (by omega)⟩
    · rcases inv_6 h with ⟨i, a, b, rfl, g1, g2, g3, g4⟩ | ⟨i, a, b, rfl, g1, g2, g3, r, g4, g5⟩
      · rw [x_16]
        exact ⟨⟨by show (0 : Int) ≤ 0; omega, by show (0 : Int) ≤ _; omega⟩, TX_b (TX_rf hI) (by omega)⟩
      · rw [tsz_nd] at ht
        rw [x_17] at nf ⊢
        obtain ⟨B1, B2⟩ := seq a b 0 7 _ _ (p + 1) r r (by omega) (by omega) (by omega) (by omega) g4 g5 (by omega) (by omega) (by omega) nf
        have e1 : dl 6 (nd 17 i a b) = 1 + dl 7 b := by
          show nA b + 1 = 1 + nA b
          omega
        rw [e1]
        exact ⟨B1, B2⟩
    · rcases inv_7 h with ⟨i, a, b, rfl, g1, r, g4, g5⟩ | ⟨i, a, b, rfl, g1, g2⟩
      · rw [tsz_nd] at ht
        rw [x_18] at nf ⊢
        obtain ⟨B1, B2⟩ := seq a b 0 7 _ _ (p + 1) r r (by omega) (by omega) (by omega) (by omega) g4 g5 (by omega) (by omega) (by omega) nf
        have e1 : dl 7 (nd 18 i a b) = 1 + dl 7 b := by
          show nA b + 1 = 1 + nA b
          omega
        rw [e1]
        exact ⟨B1, B2⟩
      · rw [x_19]
        exact ⟨⟨by show (0 : Int) ≤ 0; omega, by show (0 : Int) ≤ _; omega⟩, TX_b (TX_rf hI) (by omega)⟩
end Typ
