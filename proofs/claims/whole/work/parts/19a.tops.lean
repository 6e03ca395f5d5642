/-! THE CLASS'S TOPS against the model's table -/
def look : List (Int × Int × Int) → Int → Int × Int
  | [], _ => (0, -1)
  | x :: l, c => if x.1 = c then x.2 else look l c
theorem look_z {c : Int} : ∀ {l : List (Int × Int × Int)}, (∀ y ∈ l, y.2.1 ≠ 0) → (look l c).1 = 0 → look l c = (0, -1)
  | [], _, _ => rfl
  | x :: l, hk, h => by
    unfold look at h ⊢
    by_cases hx : x.1 = c
    · rw [if_pos hx] at h
      exact absurd h (hk x (List.mem_cons_self ..))
    · rw [if_neg hx] at h ⊢
      exact look_z (fun y hy => hk y (List.mem_cons_of_mem _ hy)) h
theorem look_app {c : Int} {x : Int × Int × Int} : ∀ {l : List (Int × Int × Int)}, (∀ y ∈ l, y.2.1 ≠ 0) → look (l ++ [x]) c = if (look l c).1 = 0 then (if x.1 = c then x.2 else (0, -1)) else look l c
  | [], _ => rfl
  | y :: l, hk => by
    show (if y.1 = c then y.2 else look (l ++ [x]) c) = if (if y.1 = c then y.2 else look l c).1 = 0 then (if x.1 = c then x.2 else (0, -1)) else (if y.1 = c then y.2 else look l c)
    by_cases hy : y.1 = c
    · rw [if_pos hy, if_pos hy, if_neg (hk y (List.mem_cons_self ..))]
    · rw [if_neg hy, if_neg hy]
      exact look_app (fun z hz => hk z (List.mem_cons_of_mem _ hz))
def TA (m : Mem) (l : List (Int × Int × Int)) : Prop := (∀ y ∈ l, y.2.1 ≠ 0) ∧ ∀ id : Int, 0 ≤ id → id < m 57 4 → (m 59 id.toNat, m 60 id.toNat) = look l (m 58 id.toNat)
def IJ (m : Mem) : Prop := ∀ a b : Int, 0 ≤ a → a < m 57 4 → 0 ≤ b → b < m 57 4 → m 58 a.toNat = m 58 b.toNat → a = b
theorem TA_cg {m m' : Mem} {l : List (Int × Int × Int)} (h4 : m' 57 4 = m 57 4) (h : ∀ k, m' 58 k = m 58 k ∧ m' 59 k = m 59 k ∧ m' 60 k = m 60 k) (T : TA m l) : TA m' l := ⟨T.1, fun id h0 h1 => by
    rw [(h id.toNat).1, (h id.toNat).2.1, (h id.toNat).2.2]
    exact T.2 id h0 (by omega)⟩
theorem TA_tel {m : Mem} {l : List (Int × Int × Int)} {i k n : Int} (hI : IJ m) (h0 : 0 ≤ idT m i) (h1 : idT m i < m 57 4) (hk : k ≠ 0) (T : TA m l) : TA (tel m i k n) (l ++ [(m 58 (idT m i).toNat, k, n)]) := by
  have e1 : kI m (idT m i) = m 59 (idT m i).toNat := if_neg (by omega)
  refine ⟨fun y hy => ?_, fun id g0 g1 => ?_⟩
  · rcases List.mem_append.1 hy with hy | hy
    · exact T.1 y hy
    · rw [List.mem_singleton.1 hy]
      exact hk
  · have q1 := (Kt_tel (m := m) (i := i) (k := k) (n := n)).2
    rw [q1] at g1
    have q2 := (Kt_tel (m := m) (i := i) (k := k) (n := n)).1 58 id.toNat (by omega)
    rw [q2, look_app T.1]
    have t1 := T.2 id g0 g1
    have t2 : (look l (m 58 id.toNat)).1 = m 59 id.toNat := by rw [← t1]
    rw [t2]
    unfold tel
    by_cases hz : kI m (idT m i) = 0
    · rw [if_pos hz, if_pos ⟨h0, h1⟩]
      by_cases hd : id = idT m i
      · subst hd
        rw [if_pos (e1 ▸ hz), if_pos rfl]
        show (put (put m 59 _ k) 60 _ n 59 _, put (put m 59 _ k) 60 _ n 60 _) = (k, n)
        rw [put_ss, if_neg (by decide), put_ss, if_pos rfl, if_pos rfl, put_ss, if_pos rfl, if_pos rfl]
      · have hd2 : ¬ id.toNat = (idT m i).toNat := by omega
        have hd3 : ¬ m 58 (idT m i).toNat = m 58 id.toNat := fun z => hd (hI _ _ g0 g1 h0 h1 z.symm)
        rw [put_ss, if_neg (by decide), put_ss, if_pos rfl, if_neg hd2, put_ss, if_pos rfl, if_neg hd2, put_ss, if_neg (by decide), t1, if_neg hd3]
        by_cases hq : m 59 id.toNat = 0
        · rw [if_pos hq]
          exact look_z T.1 (t2.trans hq)
        · rw [if_neg hq]
    · rw [if_neg hz]
      rw [put_ss, if_neg (by decide), put_ss, if_neg (by decide), t1]
      by_cases hq : m 59 id.toNat = 0
      · rw [if_pos hq]
        have hd3 : ¬ m 58 (idT m i).toNat = m 58 id.toNat := fun z => by
          have := hI _ _ g0 g1 h0 h1 z.symm
          subst this
          exact hz (e1.trans hq)
        show _ = if m 58 (idT m i).toNat = m 58 id.toNat then (k, n) else (0, -1)
        rw [if_neg hd3]
        exact look_z T.1 (t2.trans hq)
      · rw [if_neg hq]
theorem IJ_Kt {m m' : Mem} (h : Kt m m') (I : IJ m) : IJ m' := fun a b h1 h2 h3 h4 h5 => I a b h1 (by rw [← h.2]; exact h2) h3 (by rw [← h.2]; exact h4) (by rw [← h.1 58 _ (by omega), ← h.1 58 _ (by omega)]; exact h5)
/-- names and numbers of the text, in the model's values v -/
def VC (m : Mem) (v : Int → Int) (e : Int) : Prop := ∀ i, 0 ≤ i → i < e → (kd m i = 2 → 0 ≤ idT m i ∧ idT m i < m 57 4 ∧ m 58 (idT m i).toNat = v i) ∧ (kd m i = 3 → idT m i = v i)
theorem VC_Kt {m m' : Mem} {v : Int → Int} {e : Int} (h : Kt m m') (I : VC m v e) : VC m' v e := fun i h0 h1 => by
  rw [Kt_kd h, Kt_id h, h.2, h.1 58 _ (by omega)]
  exact I i h0 h1
