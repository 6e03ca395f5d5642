/-! GATHER: the words of vars, the raises of procs -/
def usm (m : Mem) : Nat → Int
  | 0 => 0
  | k + 1 => usm m k + m 63 k
theorem usm_c {m m2 : Mem} : ∀ k, (∀ j, j < k → m2 63 j = m 63 j) → usm m2 k = usm m k
  | 0 => fun _ => rfl
  | k + 1 => fun h => by
    show usm m2 k + m2 63 k = usm m k + m 63 k
    rw [usm_c k (fun j hj => h j (by omega)), h k (by omega)]
theorem usm_b {m : Mem} : ∀ k, (∀ j, j < k → 0 ≤ m 63 j ∧ m 63 j ≤ 32767) → 0 ≤ usm m k ∧ usm m k ≤ 32767 * (k : Int)
  | 0 => fun _ => ⟨Int.le_refl 0, Int.le_refl 0⟩
  | k + 1 => fun h => by
    have := usm_b (m := m) k (fun j hj => h j (by omega))
    have := h k (by omega)
    show 0 ≤ usm m k + m 63 k ∧ usm m k + m 63 k ≤ 32767 * ((k + 1 : Nat) : Int)
    omega
/-- what gather has told of vars and raises -/
def GVI (m : Mem) (ws : List Int) (rl : List (List Int)) : Prop := (m 57 5 = (ws.length : Int) ∧ (∀ k, k < ws.length → m 63 k = ws.getD k 0 ∧ (0 ≤ m 63 k ∧ m 63 k ≤ 32767) ∧ m 62 k = usm m k) ∧ m 57 8 = usm m ws.length) ∧ m 57 7 = (rl.length : Int) ∧ m 57 14 = (rl.flatten.length : Int) ∧ (∀ k, k < rl.length → m 66 k = ((rl.take k).flatten.length : Int)) ∧ (∀ k, k < rl.flatten.length → m 65 k = idT m (rl.flatten.getD k 0))
section Gvr
variable {m m2 : Mem} {v V : Int → Int} {e : Int} {ws : List Int} {rl : List (List Int)}
theorem GVI_c (G : GVI m ws rl) (h57 : ∀ j, j = 5 ∨ j = 8 ∨ j = 7 ∨ j = 14 → m2 57 j = m 57 j) (ha : ∀ a k, a = 62 ∨ a = 63 ∨ a = 65 ∨ a = 66 → m2 a k = m a k) (hk : Kt m m2) : GVI m2 ws rl := by
  obtain ⟨⟨g1, g2, g3⟩, g4, g5, g6, g7⟩ := G
  have hu : ∀ k, usm m2 k = usm m k := fun k => usm_c k (fun j _ => ha 63 j (by omega))
  refine ⟨⟨by rw [h57 5 (by omega)]; exact g1, fun k hk => by rw [ha 63 k (by omega), ha 62 k (by omega), hu]; exact g2 k hk, by rw [h57 8 (by omega), hu]; exact g3⟩, by rw [h57 7 (by omega)]; exact g4, by rw [h57 14 (by omega)]; exact g5, fun k hk => by rw [ha 66 k (by omega)]; exact g6 k hk, fun k hk2 => by rw [ha 65 k (by omega), Kt_id hk]; exact g7 k hk2⟩
theorem gV_f {i k n : Int} (h : m 57 5 < 500) : (∀ q, gV m i k n 62 q = if q = (m 57 5).toNat then m 57 8 else m 62 q) ∧ (∀ q, gV m i k n 63 q = if q = (m 57 5).toNat then n else m 63 q) ∧ gV m i k n 57 5 = m 57 5 + 1 ∧ gV m i k n 57 8 = w32 (m 57 8 + n) := by
  have e : gV m i k n = put (put (put (put (tel (bgL m (n < 1 ∨ 500 < n)) i k (m 57 5)) 62 (m 57 5).toNat (m 57 8)) 63 (m 57 5).toNat n) 57 5 (m 57 5 + 1)) 57 8 (w32 (m 57 8 + n)) := by
    unfold gV
    rw [if_pos h]
  rw [e]
  refine ⟨fun q => ?_, fun q => ?_, rfl, rfl⟩
  · rw [put_ss, if_neg (by decide), put_ss, if_neg (by decide), put_ss, if_neg (by decide), put_ss, if_pos rfl, tel_ro 62 q (by decide) (by decide) (by decide), bgL_ro 62 q (by decide)]
  · rw [put_ss, if_neg (by decide), put_ss, if_neg (by decide), put_ss, if_pos rfl]
    by_cases c : q = (m 57 5).toNat
    · rw [if_pos c, if_pos c]
    · rw [if_neg c, if_neg c, put_ss, if_neg (by decide), tel_ro 63 q (by decide) (by decide) (by decide), bgL_ro 63 q (by decide)]
theorem GVI_V (G : GVI m ws rl) {i k n : Int} (hn : 0 ≤ n ∧ n ≤ 32767) (h5 : (ws.length : Int) < 500) : GVI (gV m i k n) (ws ++ [n]) rl := by
  obtain ⟨⟨g1, g2, g3⟩, g4, g5, g6, g7⟩ := G
  obtain ⟨f1, f2, f3, f4⟩ := gV_f (m := m) (i := i) (k := k) (n := n) (by omega)
  have e5 : (m 57 5).toNat = ws.length := by rw [g1]; exact Int.toNat_natCast _
  rw [e5] at f1 f2
  have hu : ∀ q, q ≤ ws.length → usm (gV m i k n) q = usm m q := fun q hq => usm_c q (fun j hj => by rw [f2, if_neg (by omega)])
  have hb := usm_b (m := m) ws.length (fun j hj => (g2 j hj).2.1)
  have kt := Kt_gV (m := m) (i := i) (k := k) (n := n)
  have hl : (ws ++ [n]).length = ws.length + 1 := by rw [List.length_append]; rfl
  refine ⟨⟨by rw [f3, g1, hl]; omega, fun q hq => ?_, ?_⟩, by rw [gV_57 7 (by decide) (by decide) (by decide) (by decide)]; exact g4, by rw [gV_57 14 (by decide) (by decide) (by decide) (by decide)]; exact g5, fun q hq => by rw [gV_ro 66 q (by decide) (by decide) (by decide), tel_ro 66 q (by decide) (by decide) (by decide), bgL_ro 66 q (by decide)]; exact g6 q hq, fun q hq => by rw [gV_ro 65 q (by decide) (by decide) (by decide), tel_ro 65 q (by decide) (by decide) (by decide), bgL_ro 65 q (by decide), Kt_id kt]; exact g7 q hq⟩
  · rw [hl] at hq
    rw [f2, f1, hu q (by omega)]
    by_cases c : q = ws.length
    · subst c
      rw [if_pos rfl, if_pos rfl, List.getD_eq_getElem?_getD, List.getElem?_append_right (Nat.le_refl _), Nat.sub_self]
      exact ⟨rfl, hn, g3⟩
    · rw [if_neg c, if_neg c, List.getD_eq_getElem?_getD, List.getElem?_append_left (by omega), ← List.getD_eq_getElem?_getD]
      exact g2 q (by omega)
  · rw [f4, hl]
    show _ = usm (gV m i k n) ws.length + gV m i k n 63 ws.length
    rw [hu _ (Nat.le_refl _), f2, if_pos rfl, g3]
    exact w32_of (by omega) (by omega)
theorem GVI_N {K : Int → Int} : ∀ (k : Nat) (t : xT), tsz t < k → ∀ (m : Mem) (x r : Int), PN K t x r → ∀ a j, a = 62 ∨ a = 63 ∨ a = 65 ∨ a = 66 → gN t m a j = m a j := by
  intro k
  induction k with
  | zero => intro t ht; exact absurd ht (Nat.not_lt_zero _)
  | succ k ih =>
    intro t ht m x r h a j ha
    have e1 : gC m x a j = m a j := by
      unfold gC
      rw [tel_ro a j (by omega) (by omega) (by omega), put_ss, if_neg (by omega)]
    rcases inv_N h with ⟨a1, b, rfl, g1, g2, g3⟩ | ⟨a1, b, rfl, g1, g2, g3⟩
    · exact e1
    · rw [tsz_nd] at ht
      exact (ih b (by omega) (gC m x) _ _ g3 a j ha).trans e1
/-- raises: told in the last list -/
def GRI (m : Mem) (ws : List Int) (rl : List (List Int)) (x : List Int) : Prop := (m 57 5 = (ws.length : Int) ∧ (∀ k, k < ws.length → m 63 k = ws.getD k 0 ∧ (0 ≤ m 63 k ∧ m 63 k ≤ 32767) ∧ m 62 k = usm m k) ∧ m 57 8 = usm m ws.length) ∧ m 57 7 = ((rl.length + 1 : Nat) : Int) ∧ m 57 14 = ((rl.flatten ++ x).length : Int) ∧ (∀ k, k < rl.length → m 66 k = ((rl.take k).flatten.length : Int)) ∧ m 66 rl.length = (rl.flatten.length : Int) ∧ (∀ k, k < (rl.flatten ++ x).length → m 65 k = idT m ((rl.flatten ++ x).getD k 0))
theorem GRI_R {x : List Int} {i : Int} (G : GRI m ws rl x) : GRI (gR m i) ws rl (x ++ [i]) := by
  obtain ⟨⟨g1, g2, g3⟩, g4, g5, g6, g6b, g7⟩ := G
  have kt := Kt_gR (m := m) (i := i)
  have o : ∀ a j, a ≠ 65 → a ≠ 57 → gR m i a j = m a j := fun a j h1 h2 => by
    unfold gR
    rw [put_ss, if_neg h2, put_ss, if_neg h1]
  have o65 : ∀ q, gR m i 65 q = if q = (m 57 14).toNat then idT m i else m 65 q := fun q => by
    unfold gR
    rw [put_ss, if_neg (by decide), put_ss, if_pos rfl]
  have e14 : (m 57 14).toNat = (rl.flatten ++ x).length := by rw [g5]; exact Int.toNat_natCast _
  have hu : ∀ q, usm (gR m i) q = usm m q := fun q => usm_c q (fun j _ => o 63 j (by decide) (by decide))
  have hl : (rl.flatten ++ (x ++ [i])).length = (rl.flatten ++ x).length + 1 := by rw [← List.append_assoc, List.length_append]; rfl
  refine ⟨⟨by rw [gR_57 5 (by decide)]; exact g1, fun q hq => by rw [o 63 q (by decide) (by decide), o 62 q (by decide) (by decide), hu]; exact g2 q hq, by rw [gR_57 8 (by decide), hu]; exact g3⟩, by rw [gR_57 7 (by decide)]; exact g4, by rw [gR_14, g5, hl]; omega, fun q hq => by rw [o 66 q (by decide) (by decide)]; exact g6 q hq, by rw [o 66 _ (by decide) (by decide)]; exact g6b, fun q hq => ?_⟩
  rw [hl] at hq
  rw [o65, e14, Kt_id kt, ← List.append_assoc]
  by_cases c : q = (rl.flatten ++ x).length
  · subst c
    rw [if_pos rfl, List.getD_eq_getElem?_getD, List.getElem?_append_right (Nat.le_refl _), Nat.sub_self]
    rfl
  · rw [if_neg c, List.getD_eq_getElem?_getD, List.getElem?_append_left (by omega), ← List.getD_eq_getElem?_getD]
    exact g7 q (by omega)
theorem GRI_Rs {K : Int → Int} : ∀ (k : Nat) (t : xT), tsz t < k → ∀ (m : Mem) (p r : Int) (x : List Int), PN K t p r → GRI m ws rl x → GRI (gRs t m) ws rl (x ++ tkN t) := by
  intro k
  induction k with
  | zero => intro t ht; exact absurd ht (Nat.not_lt_zero _)
  | succ k ih =>
    intro t ht m p r x h G
    rcases inv_N h with ⟨a1, b, rfl, g1, g2, g3⟩ | ⟨a1, b, rfl, g1, g2, g3⟩
    · exact GRI_R G
    · rw [tsz_nd] at ht
      have z := ih b (by omega) (gR m p) _ _ (x ++ [p]) g3 (GRI_R G)
      rw [List.append_assoc] at z
      exact z
theorem GVI_H (G : GVI m ws rl) {x n : Int} : GRI (gH m x n) ws rl [] := by
  obtain ⟨⟨g1, g2, g3⟩, g4, g5, g6, g7⟩ := G
  have kt := Kt_gH (m := m) (x := x) (n := n)
  have o : ∀ a j, a = 62 ∨ a = 63 ∨ a = 65 → gH m x n a j = m a j := fun a j h => by
    rw [gH_ro a j (by omega) (by omega) (by omega), tel_ro a j (by omega) (by omega) (by omega)]
  have e7 : (m 57 7).toNat = rl.length := by rw [g4]; exact Int.toNat_natCast _
  have o66 : ∀ q, gH m x n 66 q = if q = rl.length then m 57 14 else m 66 q := fun q => by
    unfold gH
    rw [put_ss, if_neg (by decide), put_ss, if_pos rfl, e7]
    split
    · rfl
    · rw [put_ss, if_neg (by decide), bgL_ro 66 q (by decide), tel_ro 66 q (by decide) (by decide) (by decide)]
  have hu : ∀ q, usm (gH m x n) q = usm m q := fun q => usm_c q (fun j _ => o 63 j (by omega))
  refine ⟨⟨by rw [gH_57 5 (by decide) (by decide) (by decide)]; exact g1, fun q hq => by rw [o 63 q (by omega), o 62 q (by omega), hu]; exact g2 q hq, by rw [gH_57 8 (by decide) (by decide) (by decide), hu]; exact g3⟩, by rw [gH_7, g4]; omega, by rw [gH_57 14 (by decide) (by decide) (by decide), List.append_nil]; exact g5, fun q hq => by rw [o66, if_neg (by omega)]; exact g6 q hq, by rw [o66, if_pos rfl]; exact g5, fun q hq => ?_⟩
  rw [List.append_nil] at hq ⊢
  rw [o 65 q (by omega), Kt_id kt]
  exact g7 q hq
theorem GRI_e {x : List Int} (G : GRI m ws rl x) : GVI m ws (rl ++ [x]) := by
  obtain ⟨g0, g4, g5, g6, g6b, g7⟩ := G
  have hf : (rl ++ [x]).flatten = rl.flatten ++ x := by rw [List.flatten_append, List.flatten_singleton]
  have hl : (rl ++ [x]).length = rl.length + 1 := by rw [List.length_append]; rfl
  refine ⟨g0, by rw [hl]; exact g4, by rw [hf]; exact g5, fun k hk => ?_, by rw [hf]; exact g7⟩
  rw [hl] at hk
  by_cases c : k = rl.length
  · subst c
    rw [List.take_append_of_le_length (Nat.le_refl _), List.take_length]
    exact g6b
  · rw [List.take_append_of_le_length (by omega)]
    exact g6 k (by omega)
theorem GVR (h15 : e ≤ 1490) (hv : ∀ i, 0 ≤ i → i < e → kd m2 i = 3 → 0 ≤ v i ∧ v i ≤ 32767) : ∀ (k : Nat) (t : xT), tsz t < k → ∀ (m : Mem) (p : Int) (ws : List Int) (rl : List (List Int)), kd m = kd m2 → PT (kd m) V t p e → 0 ≤ p → VC m v e → 3 * (ws.length : Int) ≤ p → GVI m ws rl → GVI (gT t m) (ws ++ vwT v t) (rl ++ rT t) := by
  intro k
  induction k with
  | zero => intro t ht; exact absurd ht (Nat.not_lt_zero _)
  | succ k ih =>
    intro t ht m p ws rl hm h h0 hV h3 G
    have l0 := PT_le (tsz t + 1) t (by omega) _ _ h
    rcases inv_T h with ⟨i, a, b, rfl, g1, g2⟩ | ⟨a, b, rfl, g1, g2, g3, g4⟩ | ⟨a, b, rfl, g1, g2, g3, g4, g5, g6, g7⟩ | ⟨a, b, rfl, g1, r, g2, g3, g4⟩ | ⟨a, b, rfl, g1, g2, g3, r, g4, g5⟩
    · have e1 : vwT v (nd 40 i a b) = [] := rfl
      have e2 : rT (nd 40 i a b) = [] := rfl
      rw [e1, e2, List.append_nil, List.append_nil]
      exact G
    · rw [tsz_nd] at ht
      have q := Kt_gV (m := m) (i := p + 1) (k := 1) (n := 1)
      have z := ih b (by omega) (gV m (p + 1) 1 1) (p + 3) (ws ++ [1]) rl ((Kt_kd q).trans hm) (by rw [Kt_kd q]; exact g4) (by omega) (VC_Kt q hV) (by rw [List.length_append]; show 3 * ((ws.length + 1 : Nat) : Int) ≤ _; omega) (GVI_V G (by omega) (by omega))
      rw [List.append_assoc] at z
      exact z
    · rw [tsz_nd] at ht
      have hle := PT_le (tsz b + 1) b (by omega) _ _ g7
      have q := Kt_gV (m := m) (i := p + 1) (k := 2) (n := idT m (p + 3))
      have ev := (hV (p + 3) (by omega) (by omega)).2 g4
      have hb := hv (p + 3) (by omega) (by omega) (by rw [← hm]; exact g4)
      have z := ih b (by omega) (gV m (p + 1) 2 (idT m (p + 3))) (p + 6) (ws ++ [idT m (p + 3)]) rl ((Kt_kd q).trans hm) (by rw [Kt_kd q]; exact g7) (by omega) (VC_Kt q hV) (by rw [List.length_append]; show 3 * ((ws.length + 1 : Nat) : Int) ≤ _; omega) (GVI_V G (by omega) (by omega))
      rw [List.append_assoc] at z
      have e1 : ws ++ vwT v (nd 42 p a b) = ws ++ ([idT m (p + 3)] ++ vwT v b) := by rw [ev]; rfl
      rw [e1]
      exact z
    · rw [tsz_nd] at ht
      have hnn := PN_n a g2
      obtain ⟨q, q2⟩ := Kt_gN (tsz a + 1) a (by omega) m _ _ g2
      have G2 := GVI_c G (fun j hj => q2 j (by omega) (by omega)) (fun a' k' ha => GVI_N (tsz a + 1) a (by omega) m _ _ g2 a' k' ha) q
      exact ih b (by omega) (gN a m) _ ws rl ((Kt_kd q).trans hm) (by rw [Kt_kd q]; exact g4) (by omega) (VC_Kt q hV) (by omega) G2
    · rw [tsz_nd] at ht
      have hph := PH_lt g4
      have q1 := Kt_gH (m := m) (x := p + 1) (n := hN a)
      obtain ⟨q3, q4⟩ := Kt_gRq (m := gH m (p + 1) (hN a)) g4
      have q := Kt_tr q1 q3
      have G1 := GVI_H (x := p + 1) (n := hN a) G
      have G2 : GVI (gRq a (gH m (p + 1) (hN a))) ws (rl ++ [rsT a]) := by
        refine GRI_e ?_
        obtain ⟨i, pa, i2, ra, bk, rfl, r1, s1, u1, u2, u3, u4⟩ := inv_H g4
        rcases u3 with ⟨rfl, _, _⟩ | ⟨rfl, _, u3⟩
        · exact G1
        · exact GRI_Rs (tsz ra + 1) ra (by omega) _ _ _ [] u3 G1
      have z := ih b (by omega) (gRq a (gH m (p + 1) (hN a))) r ws (rl ++ [rsT a]) ((Kt_kd q).trans hm) (by rw [Kt_kd q]; exact g5) (by omega) (VC_Kt q hV) (by omega) G2
      rw [List.append_assoc] at z
      exact z
end Gvr
