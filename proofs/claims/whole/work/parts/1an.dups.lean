/-! NAMES TOLD TWICE AT THE TOP: the first of them, in the class's gather -/
def dN (v : Int → Int) : xT → List Int → Int
  | .tag k (.nest i (.append _ b)) => fun l => match k with
    | 45 => if v i ∈ l then i else -1
    | _ => if v i ∈ l then i else dN v b (l ++ [v i])
  | _ => fun _ => -1
def cN (v : Int → Int) : xT → List Int
  | .tag k (.nest i (.append _ b)) => match k with
    | 45 => [v i]
    | _ => v i :: cN v b
  | _ => []
/-- the first name told twice, behind those of l -/
def dT (v : Int → Int) : xT → List Int → Int
  | .tag k (.nest i (.append a b)) => fun l => match k with
    | 41 => if v (i + 1) ∈ l then i + 1 else dT v b (l ++ [v (i + 1)])
    | 42 => if v (i + 1) ∈ l then i + 1 else dT v b (l ++ [v (i + 1)])
    | 43 => if dN v a l = -1 then dT v b (l ++ cN v a) else dN v a l
    | 44 => if v (i + 1) ∈ l then i + 1 else dT v b (l ++ [v (i + 1)])
    | _ => -1
  | _ => fun _ => -1
/-- the codes told at the top -/
def cT (v : Int → Int) : xT → List Int
  | .tag k (.nest i (.append a b)) => match k with
    | 41 => v (i + 1) :: cT v b
    | 42 => v (i + 1) :: cT v b
    | 43 => cN v a ++ cT v b
    | 44 => v (i + 1) :: cT v b
    | _ => []
  | _ => []
def cds (s : tS6) : List Int := s.1.map (fun x => x.1)
theorem look_0 {c : Int} : ∀ {l : List (Int × Int × Int)}, (∀ y ∈ l, y.2.1 ≠ 0) → ((look l c).1 = 0 ↔ c ∉ l.map (fun x => x.1))
  | [], _ => ⟨fun _ h => absurd h (List.not_mem_nil), fun _ => rfl⟩
  | x :: l, hk => by
    unfold look
    rw [List.map_cons, List.mem_cons]
    by_cases hx : x.1 = c
    · rw [if_pos hx]
      exact ⟨fun z => absurd z (hk x (List.mem_cons_self ..)), fun z => absurd (Or.inl hx.symm) z⟩
    · rw [if_neg hx, look_0 (fun y hy => hk y (List.mem_cons_of_mem _ hy))]
      exact ⟨fun z w => w.elim (fun w => hx w.symm) z, fun z w => z (Or.inr w)⟩
theorem tel_15 {m : Mem} {i k n : Int} : tel m i k n 57 15 = if kI m (idT m i) = 0 then m 57 15 else imin (m 57 15) (plc m i) := by
  unfold tel
  split
  · split <;> rfl
  · rfl
theorem bgL_x {m : Mem} {c : Prop} [Decidable c] {a k : Nat} (h : ¬ (a = 57 ∧ k = 16)) : bgL m c a k = m a k := by
  unfold bgL
  split
  · rw [put_ss]
    by_cases h1 : a = 57
    · rw [if_pos h1, if_neg (fun z => h ⟨h1, z⟩)]
    · rw [if_neg h1]
  · rfl
theorem bgL_kI {m : Mem} {c : Prop} [Decidable c] {i : Int} : kI (bgL m c) (idT (bgL m c) i) = kI m (idT m i) := by
  unfold kI idT
  rw [bgL_x (by omega), bgL_x (by omega), bgL_x (by omega), bgL_x (by omega)]
theorem bgL_plc {m : Mem} {c : Prop} [Decidable c] {i : Int} : plc (bgL m c) i = plc m i := by
  unfold plc
  rw [bgL_x (by omega), bgL_x (by omega), bgL_x (by omega)]
theorem gV_15 {m : Mem} {i k n : Int} : gV m i k n 57 15 = if kI m (idT m i) = 0 then m 57 15 else imin (m 57 15) (plc m i) := by
  have e1 := tel_15 (m := bgL m (n < 1 ∨ 500 < n)) (i := i) (k := k) (n := m 57 5)
  rw [bgL_kI, bgL_plc, bgL_x (by omega)] at e1
  rw [← e1]
  unfold gV
  split <;> rfl
theorem gC_15 {m : Mem} {i : Int} : gC m i 57 15 = if kI m (idT m i) = 0 then m 57 15 else imin (m 57 15) (plc m i) := by
  unfold gC
  rw [tel_15]
  rfl
theorem gH_15 {m : Mem} {x n : Int} : gH m x n 57 15 = if kI m (idT m x) = 0 then m 57 15 else imin (m 57 15) (plc m x) := by
  rw [← tel_15 (m := m) (i := x) (k := 4) (n := m 57 7)]
  unfold gH
  show bgL (tel m x 4 (m 57 7)) (8 < n) 57 15 = _
  exact bgL_x (by omega)
section Dup
variable {v V : Int → Int} {e : Int}
theorem TA_kI {m : Mem} {l : List (Int × Int × Int)} {i : Int} (T : TA m l) (hV : VC m v e) (h0 : 0 ≤ i) (h1 : i < e) (hk : kd m i = 2) : kI m (idT m i) = 0 ↔ v i ∉ l.map (fun x => x.1) := by
  obtain ⟨v1, v2, v3⟩ := (hV i h0 h1).1 hk
  have e1 : kI m (idT m i) = m 59 (idT m i).toNat := if_neg (by omega)
  have e2 := T.2 (idT m i) v1 v2
  rw [v3] at e2
  have e3 : m 59 (idT m i).toNat = (look l (v i)).1 := by rw [← e2]
  rw [e1, e3]
  exact look_0 T.1
theorem st15 {m : Mem} {i b : Int} (hb : b = if kI m (idT m i) = 0 then m 57 15 else imin (m 57 15) (plc m i)) (h0 : 0 ≤ i) (h5 : i < m 51 5) (hs : m 57 15 ≤ m 54 i.toNat) : b = m 57 15 := by
  have e1 : plc m i = m 54 i.toNat := if_neg (by omega)
  rw [hb]
  split
  · rfl
  · rw [e1]; unfold imin; rw [if_pos hs]
theorem nw15 {m : Mem} {i b : Int} (hb : b = if kI m (idT m i) = 0 then m 57 15 else imin (m 57 15) (plc m i)) (h0 : 0 ≤ i) (h5 : i < m 51 5) (hs : m 54 i.toNat < m 57 15) (hk : ¬ kI m (idT m i) = 0) : b = m 54 i.toNat := by
  have e1 : plc m i = m 54 i.toNat := if_neg (by omega)
  rw [hb, if_neg hk, e1]
  unfold imin
  rw [if_neg (by omega)]
theorem G15Ns {K : Int → Int} : ∀ (k : Nat) (t : xT), tsz t < k → ∀ (m : Mem) (x r : Int), PN K t x r → 0 ≤ x → r ≤ e → e < m 51 5 → (∀ j, x ≤ j → j < e → m 57 15 ≤ m 54 j.toNat) → gN t m 57 15 = m 57 15 := by
  intro k
  induction k with
  | zero => intro t ht; exact absurd ht (Nat.not_lt_zero _)
  | succ k ih =>
    intro t ht m x r h h0 hr h5 hs
    rcases inv_N h with ⟨a, b, rfl, g1, g2, g3⟩ | ⟨a, b, rfl, g1, g2, g3⟩
    · exact st15 (i := x) gC_15 h0 (by omega) (hs x (by omega) (by omega))
    · rw [tsz_nd] at ht
      have := PN_n b g3
      have c1 := st15 (i := x) gC_15 h0 (by omega) (hs x (by omega) (by omega))
      have q := Kt_gC (m := m) (i := x)
      have c2 := ih b (by omega) (gC m x) (x + 2) r g3 (by omega) hr (by rw [q.1 51 5 (by omega)]; exact h5) (fun j j1 j2 => by rw [c1, q.1 54 _ (by omega)]; exact hs j (by omega) j2)
      exact c2.trans c1
theorem G15s : ∀ (k : Nat) (t : xT), tsz t < k → ∀ (m : Mem) (p : Int), PT (kd m) V t p e → 0 ≤ p → e < m 51 5 → (∀ j, p ≤ j → j < e → m 57 15 ≤ m 54 j.toNat) → gT t m 57 15 = m 57 15 := by
  intro k
  induction k with
  | zero => intro t ht; exact absurd ht (Nat.not_lt_zero _)
  | succ k ih =>
    intro t ht m p h h0 h5 hs
    rcases inv_T h with ⟨i, a, b, rfl, g1, g2⟩ | ⟨a, b, rfl, g1, g2, g3, g4⟩ | ⟨a, b, rfl, g1, g2, g3, g4, g5, g6, g7⟩ | ⟨a, b, rfl, g1, r, g2, g3, g4⟩ | ⟨a, b, rfl, g1, g2, g3, r, g4, g5⟩
    · rfl
    · rw [tsz_nd] at ht
      have hle := PT_le (tsz b + 1) b (by omega) _ _ g4
      have q1 := Kt_gV (m := m) (i := p + 1) (k := 1) (n := 1)
      have c1 := st15 (i := p + 1) (gV_15 (m := m) (i := p + 1) (k := 1) (n := 1)) (by omega) (by omega) (hs _ (by omega) (by omega))
      exact (ih b (by omega) (gV m (p + 1) 1 1) (p + 3) (by rw [Kt_kd q1]; exact g4) (by omega) (by rw [q1.1 51 5 (by omega)]; exact h5) (fun j j1 j2 => by rw [c1, q1.1 54 _ (by omega)]; exact hs j (by omega) j2)).trans c1
    · rw [tsz_nd] at ht
      have hle := PT_le (tsz b + 1) b (by omega) _ _ g7
      have q1 := Kt_gV (m := m) (i := p + 1) (k := 2) (n := idT m (p + 3))
      have c1 := st15 (i := p + 1) (gV_15 (m := m) (i := p + 1) (k := 2) (n := idT m (p + 3))) (by omega) (by omega) (hs _ (by omega) (by omega))
      exact (ih b (by omega) (gV m (p + 1) 2 (idT m (p + 3))) (p + 6) (by rw [Kt_kd q1]; exact g7) (by omega) (by rw [q1.1 51 5 (by omega)]; exact h5) (fun j j1 j2 => by rw [c1, q1.1 54 _ (by omega)]; exact hs j (by omega) j2)).trans c1
    · rw [tsz_nd] at ht
      have hle := PT_le (tsz b + 1) b (by omega) _ _ g4
      have hnn := PN_n a g2
      obtain ⟨q1, q2⟩ := Kt_gN (tsz a + 1) a (by omega) m _ _ g2
      have c1 := G15Ns (e := e) (tsz a + 1) a (by omega) m _ _ g2 (by omega) (by omega) h5 (fun j j1 j2 => hs j (by omega) j2)
      exact (ih b (by omega) (gN a m) (r + 1) (by rw [Kt_kd q1]; exact g4) (by omega) (by rw [q1.1 51 5 (by omega)]; exact h5) (fun j j1 j2 => by rw [c1, q1.1 54 _ (by omega)]; exact hs j (by omega) j2)).trans c1
    · rw [tsz_nd] at ht
      have hle := PT_le (tsz b + 1) b (by omega) _ _ g5
      have hph := PH_lt g4
      have w1 := Kt_gH (m := m) (x := p + 1) (n := hN a)
      obtain ⟨q1, q2⟩ := Kt_gRq (m := gH m (p + 1) (hN a)) g4
      have q3 := Kt_tr w1 q1
      have c1 := st15 (i := p + 1) (gH_15 (m := m) (x := p + 1) (n := hN a)) (by omega) (by omega) (hs _ (by omega) (by omega))
      have c2 := (q2 15 (by decide)).trans c1
      exact (ih b (by omega) (gRq a (gH m (p + 1) (hN a))) r (by rw [Kt_kd q3]; exact g5) (by omega) (by rw [q3.1 51 5 (by omega)]; exact h5) (fun j j1 j2 => by rw [c2, q3.1 54 _ (by omega)]; exact hs j (by omega) j2)).trans c2
theorem dN_r {K : Int → Int} : ∀ (k : Nat) (t : xT), tsz t < k → ∀ (l : List Int) (x r : Int), PN K t x r → dN v t l = -1 ∨ (x ≤ dN v t l ∧ dN v t l < r) := by
  intro k
  induction k with
  | zero => intro t ht; exact absurd ht (Nat.not_lt_zero _)
  | succ k ih =>
    intro t ht l x r h
    rcases inv_N h with ⟨a, b, rfl, g1, g2, g3⟩ | ⟨a, b, rfl, g1, g2, g3⟩
    · show (if v x ∈ l then x else -1) = -1 ∨ _ ≤ (if v x ∈ l then x else -1) ∧ (if v x ∈ l then x else -1) < r
      split
      · exact Or.inr (by omega)
      · exact Or.inl rfl
    · rw [tsz_nd] at ht
      have := PN_n b g3
      show (if v x ∈ l then x else dN v b (l ++ [v x])) = -1 ∨ _ ≤ (if v x ∈ l then x else dN v b (l ++ [v x])) ∧ (if v x ∈ l then x else dN v b (l ++ [v x])) < r
      split
      · exact Or.inr (by omega)
      · rcases ih b (by omega) (l ++ [v x]) _ _ g3 with z | z
        · exact Or.inl z
        · exact Or.inr (by omega)
theorem dT_r {K : Int → Int} : ∀ (k : Nat) (t : xT), tsz t < k → ∀ (l : List Int) (p : Int), PT K V t p e → dT v t l = -1 ∨ (p ≤ dT v t l ∧ dT v t l < e) := by
  intro k
  induction k with
  | zero => intro t ht; exact absurd ht (Nat.not_lt_zero _)
  | succ k ih =>
    intro t ht l p h
    have one : ∀ (b : xT) (r : Int), tsz b < k → PT K V b r e → p + 2 ≤ r → (if v (p + 1) ∈ l then p + 1 else dT v b (l ++ [v (p + 1)])) = -1 ∨ p ≤ (if v (p + 1) ∈ l then p + 1 else dT v b (l ++ [v (p + 1)])) ∧ (if v (p + 1) ∈ l then p + 1 else dT v b (l ++ [v (p + 1)])) < e := by
      intro b r hb g hr
      have := PT_le (tsz b + 1) b (by omega) _ _ g
      split
      · exact Or.inr (by omega)
      · rcases ih b hb (l ++ [v (p + 1)]) _ g with z | z
        · exact Or.inl z
        · exact Or.inr (by omega)
    rcases inv_T h with ⟨i, a, b, rfl, g1, g2⟩ | ⟨a, b, rfl, g1, g2, g3, g4⟩ | ⟨a, b, rfl, g1, g2, g3, g4, g5, g6, g7⟩ | ⟨a, b, rfl, g1, r, g2, g3, g4⟩ | ⟨a, b, rfl, g1, g2, g3, r, g4, g5⟩
    · exact Or.inl rfl
    · rw [tsz_nd] at ht
      exact one b _ (by omega) g4 (by omega)
    · rw [tsz_nd] at ht
      exact one b _ (by omega) g7 (by omega)
    · rw [tsz_nd] at ht
      have hle := PT_le (tsz b + 1) b (by omega) _ _ g4
      have hnn := PN_n a g2
      show (if dN v a l = -1 then dT v b (l ++ cN v a) else dN v a l) = -1 ∨ p ≤ (if dN v a l = -1 then dT v b (l ++ cN v a) else dN v a l) ∧ (if dN v a l = -1 then dT v b (l ++ cN v a) else dN v a l) < e
      split
      · rcases ih b (by omega) (l ++ cN v a) _ g4 with z | z
        · exact Or.inl z
        · exact Or.inr (by omega)
      · rcases dN_r (v := v) (tsz a + 1) a (by omega) l _ _ g2 with z | z
        · contradiction
        · exact Or.inr (by omega)
    · rw [tsz_nd] at ht
      have hph := PH_lt g4
      exact one b _ (by omega) g5 (by omega)
end Dup
