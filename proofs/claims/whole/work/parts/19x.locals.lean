/-! CLASS AND MODEL, THE SECOND WALK: locals come and go -/
theorem fst1_c {f g : Nat → Int} {c : Int} : ∀ (n : Nat) (k : Int), 0 ≤ k → (∀ j : Nat, k ≤ j → (j : Int) < k + n → f j = g j) → fst1 f c k n = fst1 g c k n
  | 0, _, _, _ => rfl
  | n + 1, k, h0, h => by
    unfold fst1
    rw [h k.toNat (by omega) (by omega), fst1_c n (k + 1) (by omega) (fun j h1 h2 => h j (by omega) (by omega))]
theorem fst1_s {f : Nat → Int} {c : Int} : ∀ (n : Nat) (k : Int), 0 ≤ k → fst1 f c k (n + 1) = if 0 ≤ fst1 f c k n then fst1 f c k n else if f (k + n).toNat = c then k + n else -1
  | 0, k, h0 => by
    show (if f k.toNat = c then k else -1) = if (0 : Int) ≤ -1 then -1 else if f (k + (0 : Nat)).toNat = c then k + (0 : Nat) else -1
    have e1 : k + ((0 : Nat) : Int) = k := by omega
    have e2 : ¬ ((0 : Int) ≤ -1) := by decide
    rw [e1, if_neg e2]
  | n + 1, k, h0 => by
    have ih := fst1_s (f := f) (c := c) n (k + 1) (by omega)
    have e1 : fst1 f c k (n + 1 + 1) = if f k.toNat = c then k else fst1 f c (k + 1) (n + 1) := rfl
    have e2 : fst1 f c k (n + 1) = if f k.toNat = c then k else fst1 f c (k + 1) n := rfl
    have e3 : k + 1 + (n : Int) = k + ((n + 1 : Nat) : Int) := by omega
    rw [e1, e2]
    by_cases h : f k.toNat = c
    · rw [if_pos h, if_pos h, if_pos h0]
    · rw [if_neg h, if_neg h, ih, e3]
section SRl
variable {mc m : Mem} {s : xSt} {y : yS} {σ : Int → Int} {D H p p' e : Int} {G : Prop}
theorem jadx_lcK {v c : Int} (h0 : 0 ≤ m 158 30) : lcK (jadx m v) c = if 0 ≤ lcK m c then lcK m c else if v = c then m 158 30 else -1 := by
  have e1 : jadx m v 158 30 = m 158 30 + 1 := rfl
  have e2 : ∀ k, jadx m v 172 k = if k = (m 158 30).toNat then v else m 172 k := fun k => rfl
  unfold lcK
  rw [e1]
  have e3 : (m 158 30 + 1).toNat = (m 158 30).toNat + 1 := by omega
  rw [e3, fst1_s _ _ (by decide)]
  have e4 : fst1 (jadx m v 172) c 0 (m 158 30).toNat = fst1 (m 172) c 0 (m 158 30).toNat := fst1_c _ _ (by decide) (fun j h1 h2 => by rw [e2, if_neg (by omega)])
  have e5 : (0 + ((m 158 30).toNat : Int)) = m 158 30 := by omega
  rw [e4, e5, e2, if_pos rfl]
theorem SR_ad {i : Int} (S : SE mc m e) (R : SR mc s y m σ D G H p) (hi : 0 ≤ i) (hie : i < e) (hk : kd mc i = 2) (h1 : kI mc (idT mc i) = 0) (h2 : lcK m (vlT m i) = -1) (hpp : p + 2 ≤ p') (hp : p < 1900) : SR mc s (ymk mc i y) (jadx m (m 163 i.toNat)) σ D G H p' := by
  obtain ⟨n1, n2, n3, n4, n5, n6, n7⟩ := S.nm i hi hie hk
  have w0 := R.l0
  have w1 := R.wh
  have w2 := R.lx
  have hv : m 163 i.toNat = vlT m i := rfl
  have ey : ymk mc i y = (y.1, y.2.1 + 1, vput y.2.2.1 (idT mc i).toNat y.2.1, vput y.2.2.2.1 y.2.1.toNat (idT mc i), imax y.2.2.2.2 (y.2.1 + 1)) := by
    unfold ymk
    rw [if_neg (by rw [R.ln]; omega), if_pos ⟨n5, n6⟩]
  rw [ey, R.ln, hv]
  have e30 : jadx m (vlT m i) 158 30 = m 158 30 + 1 := rfl
  have e31 : jadx m (vlT m i) 158 31 = if m 158 31 < m 158 30 + 1 then m 158 30 + 1 else m 158 31 := rfl
  have e172 : ∀ k, jadx m (vlT m i) 172 k = if k = (m 158 30).toNat then vlT m i else m 172 k := fun k => rfl
  have hlc := fun c => jadx_lcK (m := m) (v := vlT m i) (c := c) w0.1
  have htc : ∀ c, topK (jadx m (vlT m i)) c = topK m c := fun c => topK_eq (fun k => rfl) rfl
  have X := R.rx
  refine ⟨⟨X.len, X.ops, X.pus, X.nf, X.cf⟩, R.lk, R.la, R.lb, R.lj, R.ls, R.s1, R.hd, R.hl, rfl, by omega, fun j hj => ?_, fun id i0 i1 => ?_, fun j hj => ?_, ?_, R.pr, ⟨w1.1, by show 3 * m 158 39 ≤ p'; omega⟩⟩
  · rw [e172]
    show 0 ≤ vput y.2.2.2.1 (m 158 30).toNat (idT mc i) j ∧ vput y.2.2.2.1 (m 158 30).toNat (idT mc i) j < mc 57 4 ∧ mc 58 (vput y.2.2.2.1 (m 158 30).toNat (idT mc i) j).toNat = _
    unfold vput
    by_cases hj2 : j = (m 158 30).toNat
    · rw [if_pos hj2, if_pos hj2]
      exact ⟨n5, n6, n7⟩
    · rw [if_neg hj2, if_neg hj2]
      exact R.lh j (by omega)
  · show vput y.2.2.1 (idT mc i).toNat (m 158 30) id.toNat = _
    unfold vput
    rw [hlc]
    by_cases hid : id = idT mc i
    · subst hid
      rw [if_pos rfl, n7, h2, if_neg (by decide), if_pos rfl]
    · rw [if_neg (by omega), R.lm id i0 i1]
      by_cases hl : 0 ≤ lcK m (mc 58 id.toNat)
      · rw [if_pos hl]
      · rw [if_neg hl, if_neg (fun z => hid (S.ij _ _ i0 i1 n5 n6 (by rw [n7, z])))]
        exact lcK_n hl
  · rw [e172, hlc, htc]
    by_cases hj2 : j = (m 158 30).toNat
    · rw [if_pos hj2, h2, if_neg (by decide), if_pos rfl]
      exact ⟨by omega, n4.1 h1⟩
    · rw [if_neg hj2]
      have := R.ld j (by omega)
      rw [this.1, if_pos (by omega)]
      exact ⟨rfl, this.2⟩
  · rw [e30, e31, ← w2.1]
    show imax y.2.2.2.2 (m 158 30 + 1) = _ ∧ _
    unfold imax
    by_cases hq : y.2.2.2.2 < m 158 30 + 1
    · rw [if_neg (by omega), if_pos hq]
      omega
    · rw [if_pos (by omega), if_neg hq]
      omega
theorem pp30 {v w : Int} {a k : Nat} : put (put m a k v) a k w = put m a k w := by
  funext a' k'
  simp only [put_ss]
  by_cases h : a' = a
  · by_cases h2 : k' = k
    · simp only [h, h2, if_true]
    · simp only [h, h2, if_true, if_false]
  · simp only [h, if_false]
theorem ps30 {a k : Nat} : put m a k (m a k) = m := by
  funext a' k'
  rw [put_ss]
  by_cases h : a' = a
  · subst h
    rw [if_pos rfl]
    by_cases h2 : k' = k
    · subst h2
      rw [if_pos rfl]
    · rw [if_neg h2]
  · rw [if_neg h]
theorem SR_f1 (S : SE mc m e) (R : SR mc s y m σ D G H p) (hn : 0 < m 158 30) : SR mc s (y.1, y.2.1 - 1, (if 0 ≤ y.2.2.2.1 (y.2.1 - 1).toNat ∧ y.2.2.2.1 (y.2.1 - 1).toNat < mc 57 4 then vput y.2.2.1 (y.2.2.2.1 (y.2.1 - 1).toNat).toNat (-1) else y.2.2.1), y.2.2.2.1, y.2.2.2.2) (put m 158 30 (m 158 30 - 1)) σ D G H p := by
  have w0 := R.l0
  have w1 := R.wh
  have w2 := R.lx
  have lh := R.lh (m 158 30 - 1).toNat (by omega)
  have ld := R.ld (m 158 30 - 1).toNat (by omega)
  rw [R.ln, if_pos ⟨lh.1, lh.2.1⟩]
  have hlc : ∀ c, lcK (put m 158 30 (m 158 30 - 1)) c = if lcK m c = m 158 30 - 1 then -1 else lcK m c := fun c => by
    have e1 : lcK m c = fst1 (m 172) c 0 ((m 158 30 - 1).toNat + 1) := by
      unfold lcK
      congr 1
      omega
    have e2 : lcK (put m 158 30 (m 158 30 - 1)) c = fst1 (m 172) c 0 (m 158 30 - 1).toNat := rfl
    have e3 := fst1_s (f := m 172) (c := c) (m 158 30 - 1).toNat 0 (by decide)
    rw [e1, e3, e2]
    rcases fst1_b (f := m 172) (c := c) (m 158 30 - 1).toNat 0 with g | ⟨g1, g2, g3⟩
    · have e6 : ¬ ((0 : Int) ≤ -1) := by decide
      rw [g, if_neg e6]
      have e5 : (0 + ((m 158 30 - 1).toNat : Int)) = m 158 30 - 1 := by omega
      rw [e5]
      by_cases hq : m 172 (m 158 30 - 1).toNat = c
      · rw [if_pos hq, if_pos rfl]
      · rw [if_neg hq, if_neg (by omega)]
    · rw [if_pos g1, if_neg (by omega)]
  have htc : ∀ c, topK (put m 158 30 (m 158 30 - 1)) c = topK m c := fun c => topK_eq (fun k => rfl) rfl
  have e30 : put m 158 30 (m 158 30 - 1) 158 30 = m 158 30 - 1 := rfl
  have e172 : ∀ k, put m 158 30 (m 158 30 - 1) 172 k = m 172 k := fun k => rfl
  have X := R.rx
  refine ⟨⟨X.len, X.ops, X.pus, X.nf, X.cf⟩, R.lk, R.la, R.lb, R.lj, R.ls, R.s1, R.hd, R.hl, rfl, by omega, fun j hj => ?_, fun id i0 i1 => ?_, fun j hj => ?_, ⟨w2.1, by show m 158 30 - 1 ≤ m 158 31; omega, w2.2.2⟩, R.pr, w1⟩
  · rw [e30] at hj
    exact R.lh j (by omega)
  · show vput y.2.2.1 (y.2.2.2.1 (m 158 30 - 1).toNat).toNat (-1) id.toNat = _
    unfold vput
    rw [hlc]
    by_cases hid : id = y.2.2.2.1 (m 158 30 - 1).toNat
    · rw [if_pos (by rw [hid])]
      have e1 : lcK m (mc 58 id.toNat) = m 158 30 - 1 := by
        rw [hid, lh.2.2, ld.1]; omega
      rw [if_pos e1]
    · rw [if_neg (by have := lh.1; omega), R.lm id i0 i1]
      by_cases hq : lcK m (mc 58 id.toNat) = m 158 30 - 1
      · exfalso
        have g := (lcK_i (m := m) (c := mc 58 id.toNat) (by omega)).2
        rw [hq] at g
        exact hid (S.ij _ _ i0 i1 lh.1 lh.2.1 (by rw [lh.2.2, g]))
      · rw [if_neg hq]
  · rw [e30] at hj
    rw [e172, hlc, htc]
    have := R.ld j (by omega)
    rw [this.1, if_neg (by omega)]
    exact ⟨rfl, this.2⟩
theorem SR_fg : ∀ (k : Nat) (y : yS) (m : Mem), SE mc m e → SR mc s y m σ D G H p → (k : Int) ≤ m 158 30 → SR mc s (fgN mc k y) (put m 158 30 (m 158 30 - k)) σ D G H p
  | 0, y, m, S, R, _ => by
    have e1 : m 158 30 - ((0 : Nat) : Int) = m 158 30 := by omega
    rw [e1, ps30]
    exact R
  | k + 1, y, m, S, R, h => by
    have R1 := SR_f1 S R (by omega)
    have S1 : SE mc (put m 158 30 (m 158 30 - 1)) e := SE_FS S (FS_put FS_rf rfl)
    have := SR_fg k _ (put m 158 30 (m 158 30 - 1)) S1 R1 (by show (k : Int) ≤ m 158 30 - 1; omega)
    rw [pp30] at this
    have e1 : put m 158 30 (m 158 30 - 1) 158 30 - (k : Int) = m 158 30 - ((k + 1 : Nat) : Int) := by
      show m 158 30 - 1 - (k : Int) = _
      omega
    rw [e1] at this
    exact this
end SRl
