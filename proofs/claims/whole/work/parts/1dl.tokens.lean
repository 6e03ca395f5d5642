/-! THE TOKENS of both, whole: TK, VC, IJ, places -/
def BB (b : Nat → Int) (n : Int) : Prop := 0 ≤ n ∧ n ≤ 3000 ∧ ∀ k : Nat, (k : Int) < n → 0 ≤ b k ∧ b k ≤ 255
def bmm (b : Nat → Int) (n : Int) : Mem := fun a k => if a = 56 then kyL.getD k 0 else if a = 51 ∧ k = 1 then n else if a = 52 then b k else if a = 158 ∧ k = 3 then n else if a = 160 then b k else 0
section Tks
variable {m mc mr : Mem} {n p e : Int} {b : Nat → Int}
theorem BB_Y (Y : YM m b n) : BB b n := ⟨Y.2.1, Y.2.2.1, fun k hk => (Y.2.2.2 k hk).2⟩
theorem BB_B (Y : BY m b n) : BB b n := ⟨Y.2.1, Y.2.2.1, fun k hk => (Y.2.2.2 k hk).2⟩
theorem BB_BY (Y : BB b n) : BY (bmm b n) b n := ⟨rfl, Y.1, Y.2.1, fun k hk => ⟨by
  obtain ⟨z2, z3⟩ := Y.2.2 k hk
  show iand (b k) 255 = b k
  rw [iand_255]; exact Int.emod_eq_of_lt z2 (by omega), Y.2.2 k hk⟩⟩
theorem BB_YM (Y : BB b n) : YM (bmm b n) b n := ⟨rfl, Y.1, Y.2.1, fun k hk => ⟨rfl, Y.2.2 k hk⟩⟩
theorem pb_le (Y : BB b n) (h0 : 0 ≤ p) (h1 : p ≤ n) : p ≤ pb b n p ∧ pb b n p ≤ n := (C_137 (F := 100000) (L := 0) (xs := fun _ => 0) (d := 0) (a1 := p) (BB_BY Y) (by omega) h0 h1).2
theorem nS_nn (B : Int → Int) : ∀ (f : Nat) (q v : Int), 0 ≤ v → 0 ≤ (nS B f q v).2
  | 0, q, v, h => h
  | f + 1, q, v, h => by
    by_cases ha : dg1 (B q)
    · have e2 : nS B (f + 1) q v = nS B f (q + 1) (imin (v * 10 + B q - 48) 32768) := if_pos ha
      rw [e2]
      refine nS_nn B f (q + 1) _ ?_
      unfold imin
      split <;> omega
    · have e2 : nS B (f + 1) q v = (q, v) := if_neg ha
      rw [e2]
      exact h
theorem tok_TR (Y : BB b n) (h0 : 0 ≤ p) (h1 : p < n) : TR (clK (tok b n p).1 (tok b n p).2.2.1) (tok b n p).1 (tok b n p).2.2.1 := by
  have hb : 0 ≤ bt b n p ∧ bt b n p ≤ 255 := by
    obtain ⟨_, z2, z3, _⟩ := YM_b (BB_YM Y) h0 h1
    exact ⟨z2, z3⟩
  unfold tok
  by_cases hl : lt1 (bt b n p)
  · rw [if_pos hl]
    generalize wd7 (bt b n) 12 p 0 = w
    obtain ⟨q, v, z⟩ := w
    cases z with
    | true =>
      show TR (clK 5 0) 5 0
      exact Or.inr (Or.inl ⟨rfl, rfl⟩)
    | false =>
      show TR (clK (if kyN v = -1 then (1, p, v, q) else (3, p, kyN v, q)).1 (if kyN v = -1 then (1, p, v, q) else (3, p, kyN v, q)).2.2.1) (if kyN v = -1 then (1, p, v, q) else (3, p, kyN v, q)).1 (if kyN v = -1 then (1, p, v, q) else (3, p, kyN v, q)).2.2.1
      by_cases hk : kyN v = -1
      · rw [if_pos hk]
        exact Or.inr (Or.inr (Or.inl ⟨rfl, rfl⟩))
      · rw [if_neg hk]
        show TR (4 + kyN v) 3 (kyN v)
        rcases fst1_b (f := fun k => kyL.getD k 0) (c := v) 13 0 with y | ⟨y1, y2, _⟩
        · exact absurd y hk
        · have y1' : 0 ≤ kyN v := y1
          have y2' : kyN v < 0 + ((13 : Nat) : Int) := y2
          exact Or.inr (Or.inr (Or.inr (Or.inr (Or.inl ⟨by omega, by omega, rfl, by omega⟩))))
  · rw [if_neg hl]
    by_cases hd : dg1 (bt b n p)
    · rw [if_pos hd]
      have hn := nS_nn (bt b n) (n - p + 1).toNat p 0 (by omega)
      generalize nS (bt b n) (n - p + 1).toNat p 0 = w at *
      obtain ⟨q, v⟩ := w
      simp only at hn ⊢
      by_cases hv : v ≤ 32767
      · rw [if_pos hv]
        exact Or.inr (Or.inr (Or.inr (Or.inl ⟨rfl, rfl, hn, hv⟩)))
      · rw [if_neg hv]
        exact Or.inr (Or.inl ⟨rfl, rfl⟩)
    · rw [if_neg hd]
      by_cases ht : tw1 (bt b n p) ∧ bt b n (p + 1) = 61
      · rw [if_pos ht]
        obtain ⟨ht, _⟩ := ht
        refine Or.inr (Or.inr (Or.inr (Or.inr (Or.inr ⟨rfl, ?_⟩))))
        rcases ht with ht | ht | ht | ht <;> rw [ht]
        · exact Or.inr (Or.inl ⟨rfl, rfl⟩)
        · exact Or.inr (Or.inr (Or.inl ⟨rfl, rfl⟩))
        · exact Or.inr (Or.inr (Or.inr (Or.inl ⟨rfl, rfl⟩)))
        · exact Or.inr (Or.inr (Or.inr (Or.inr ⟨rfl, rfl⟩)))
      · rw [if_neg ht]
        by_cases hs : sg1 (bt b n p)
        · rw [if_pos hs]
          show TR (sgn (bt b n p)) 4 (bt b n p)
          have e3 : sgn (bt b n p) = bt b n p := by unfold sgn; omega
          rw [e3]
          refine Or.inr (Or.inr (Or.inr (Or.inr (Or.inr ⟨rfl, Or.inl ⟨?_, hb.2, rfl⟩⟩))))
          unfold sg1 at hs
          omega
        · rw [if_neg hs]
          exact Or.inr (Or.inl ⟨rfl, rfl⟩)
/-- a list of tokens stands well from p on -/
def LG (n : Int) : Int → List (Int × Int × Int × Int) → Prop
  | _, [] => True
  | p, t :: l => p ≤ t.2.1 ∧ t.2.1 < n ∧ TR (clK t.1 t.2.2.1) t.1 t.2.2.1 ∧ ((t.1 = 5 ∧ t.2.2.2 = -1 ∧ l = []) ∨ (1 ≤ t.1 ∧ t.1 ≤ 4 ∧ t.2.2.2 ≠ -1 ∧ LG n (t.2.1 + 1) l))
theorem LG_mn : ∀ {l : List (Int × Int × Int × Int)} {p q : Int}, q ≤ p → LG n p l → LG n q l
  | [], _, _, _, _ => trivial
  | t :: l, p, q, h, ⟨h1, h2, h3, h4⟩ => ⟨by omega, h2, h3, h4⟩
theorem LG_tks (Y : BB b n) : ∀ (f : Nat) (p : Int), 0 ≤ p → p ≤ n → LG n p (tks b n f p) := by
  intro f
  induction f with
  | zero => intro p h0 h1; trivial
  | succ f ih =>
    intro p h0 h1
    have e1 : tks b n (f + 1) p = if n ≤ pb b n p then [] else tok b n (pb b n p) :: (if (tok b n (pb b n p)).2.2.2 = -1 then [] else tks b n f (tok b n (pb b n p)).2.2.2) := rfl
    rw [e1]
    obtain ⟨q1, q2⟩ := pb_le Y h0 h1
    generalize hq : pb b n p = q at *
    by_cases hqn : n ≤ q
    · rw [if_pos hqn]; trivial
    · rw [if_neg hqn]
      have T := TkG_ok (p := q) (BB_YM Y) (by omega) (by omega)
      have R := tok_TR (p := q) Y (by omega) (by omega)
      rcases T with ⟨t1, t2, t3, t4, t5⟩ | ⟨t1, t2, t3, t4, t5⟩
      · rw [if_pos t2]
        exact ⟨by omega, t4, R, Or.inl ⟨t1, t2, rfl⟩⟩
      · rw [if_neg (by omega)]
        exact ⟨by omega, by omega, R, Or.inr ⟨t1, t2, by omega, LG_mn (by omega) (ih _ (by omega) (by omega))⟩⟩
theorem LG_get : ∀ (l : List (Int × Int × Int × Int)) (p : Int), LG n p l → ∀ i : Nat, i < l.length → p ≤ (l.getD i (0, 0, 0, 0)).2.1 ∧ (l.getD i (0, 0, 0, 0)).2.1 < n ∧ TR (clK (l.getD i (0, 0, 0, 0)).1 (l.getD i (0, 0, 0, 0)).2.2.1) (l.getD i (0, 0, 0, 0)).1 (l.getD i (0, 0, 0, 0)).2.2.1 ∧ (((l.getD i (0, 0, 0, 0)).1 = 5 ∧ i + 1 = l.length ∧ bdT l = true) ∨ (1 ≤ (l.getD i (0, 0, 0, 0)).1 ∧ (l.getD i (0, 0, 0, 0)).1 ≤ 4)) ∧ ∀ j : Nat, i < j → j < l.length → (l.getD i (0, 0, 0, 0)).2.1 < (l.getD j (0, 0, 0, 0)).2.1
  | [], _, _, i, hi => absurd hi (Nat.not_lt_zero _)
  | t :: l, p, ⟨h1, h2, h3, h4⟩, 0, hi => by
    refine ⟨h1, h2, h3, ?_, ?_⟩
    · rcases h4 with ⟨a1, a2, a3⟩ | ⟨a1, a2, _⟩
      · refine Or.inl ⟨a1, by rw [a3]; rfl, ?_⟩
        show (decide (t.2.2.2 = -1) || bdT l) = true
        rw [decide_eq_true a2]
        rfl
      · exact Or.inr ⟨a1, a2⟩
    · intro j hj hj2
      obtain ⟨j, rfl⟩ : ∃ k, j = k + 1 := ⟨j - 1, by omega⟩
      rcases h4 with ⟨a1, a2, a3⟩ | ⟨a1, a2, a3, a4⟩
      · rw [a3] at hj2
        exact absurd hj2 (by show ¬ j + 1 < 0 + 1; omega)
      · have := (LG_get l _ a4 j (by rw [List.length_cons] at hj2; omega)).1
        show t.2.1 < (l.getD j (0, 0, 0, 0)).2.1
        omega
  | t :: l, p, ⟨h1, h2, h3, h4⟩, i + 1, hi => by
    rcases h4 with ⟨a1, a2, a3⟩ | ⟨a1, a2, a3, a4⟩
    · rw [a3] at hi
      exact absurd hi (by show ¬ i + 1 < 0 + 1; omega)
    · have hi' : i < l.length := by rw [List.length_cons] at hi; omega
      obtain ⟨b1, b2, b3, b4, b5⟩ := LG_get l _ a4 i hi'
      refine ⟨?_, b2, b3, ?_, ?_⟩
      · show p ≤ (l.getD i (0, 0, 0, 0)).2.1
        omega
      · rcases b4 with ⟨c1, c2, c3⟩ | c
        · refine Or.inl ⟨c1, by rw [List.length_cons]; omega, ?_⟩
          show (decide (t.2.2.2 = -1) || bdT l) = true
          rw [c3, Bool.or_true]
        · exact Or.inr c
      · intro j hj hj2
        obtain ⟨j, rfl⟩ : ∃ k, j = k + 1 := ⟨j - 1, by omega⟩
        exact b5 j (by omega) (by rw [List.length_cons] at hj2; omega)
theorem LG_bd : ∀ (l : List (Int × Int × Int × Int)) (p : Int), LG n p l → bdT l = true → 0 < l.length ∧ (l.getD (l.length - 1) (0, 0, 0, 0)).1 = 5
  | [], _, _, h => Bool.noConfusion h
  | t :: l, p, ⟨h1, h2, h3, h4⟩, h => by
    rcases h4 with ⟨a1, a2, a3⟩ | ⟨a1, a2, a3, a4⟩
    · subst a3
      exact ⟨Nat.succ_pos _, a1⟩
    · have hb : bdT l = true := by
        have : (decide (t.2.2.2 = -1) || bdT l) = true := h
        rw [decide_eq_false a3] at this
        exact this
      obtain ⟨c1, c2⟩ := LG_bd l _ a4 hb
      refine ⟨Nat.succ_pos _, ?_⟩
      rw [List.length_cons]
      obtain ⟨k, hk⟩ : ∃ k, l.length = k + 1 := ⟨l.length - 1, by omega⟩
      rw [hk] at c2 ⊢
      exact c2
/-- how many good tokens -/
def gdN (l : List (Int × Int × Int × Int)) : Int := if bdT l then (l.length : Int) - 1 else l.length
/-- both cut alike -/
theorem TK_mk {l : List (Int × Int × Int × Int)} (hn0 : 0 ≤ n) (G : LG n 0 l) (C : CI m l) (hn : (l.length : Int) ≤ 2900) (M : mr 158 4 = (l.length : Int) + 1 ∨ bdT l = true) (M2 : ∀ i : Nat, i < l.length → mr 161 i = (l.getD i (0, 0, 0, 0)).1 ∧ mr 162 i = (l.getD i (0, 0, 0, 0)).2.1 ∧ mr 163 i = (l.getD i (0, 0, 0, 0)).2.2.1) (M3 : bdT l = false → mr 161 l.length = 0 ∧ mr 162 l.length = n) : TK (aF m 0 n 0) mr (gdN l) ∧ VC (aF m 0 n 0) (fun i => mr 163 i.toNat) (gdN l) ∧ (∀ i j, 0 ≤ i → i < j → j ≤ gdN l → (aF m 0 n 0) 54 i.toNat < (aF m 0 n 0) 54 j.toNat) ∧ (∀ i, 0 ≤ i → i ≤ gdN l → 0 ≤ (aF m 0 n 0) 54 i.toNat ∧ (aF m 0 n 0) 54 i.toNat ≤ n) ∧ gdN l ≤ l.length ∧ 0 ≤ gdN l := by
  obtain ⟨c1, c2, c3⟩ := C
  have g := LG_get l 0 G
  have hb := LG_bd l 0 G
  have e0 : (m 51 5).toNat = l.length := by omega
  have s51 : aF m 0 n 0 51 5 = (l.length : Int) + 1 := by show m 51 5 + 1 = _; omega
  have r53 : ∀ k, aF m 0 n 0 53 k = if k = l.length then 0 else m 53 k := fun k => by
    show (if k = (m 51 5).toNat then 0 else m 53 k) = _
    rw [e0]
  have r54 : ∀ k, aF m 0 n 0 54 k = if k = l.length then n else m 54 k := fun k => by
    show (if k = (m 51 5).toNat then n else m 54 k) = _
    rw [e0]
  have r55 : ∀ k, aF m 0 n 0 55 k = if k = l.length then 0 else m 55 k := fun k => by
    show (if k = (m 51 5).toNat then 0 else m 55 k) = _
    rw [e0]
  have kdI : ∀ i : Int, 0 ≤ i → i < l.length → kd (aF m 0 n 0) i = clK (l.getD i.toNat (0, 0, 0, 0)).1 (l.getD i.toNat (0, 0, 0, 0)).2.2.1 := fun i h0 h1 => by
    unfold kd
    rw [if_neg (by omega), r53, if_neg (by omega)]
    exact (c3 i.toNat (by omega)).1
  have idI : ∀ i : Int, 0 ≤ i → i < l.length → idT (aF m 0 n 0) i = m 55 i.toNat := fun i h0 h1 => by
    unfold idT
    rw [if_neg (by omega), r55, if_neg (by omega)]
  have he : gdN l ≤ l.length ∧ 0 ≤ gdN l := by
    unfold gdN
    split
    · rename_i z
      have := (hb z).1
      omega
    · omega
  have good : ∀ i : Int, 0 ≤ i → i < gdN l → 1 ≤ (l.getD i.toNat (0, 0, 0, 0)).1 ∧ (l.getD i.toNat (0, 0, 0, 0)).1 ≤ 4 := fun i h0 h1 => by
    rcases (g i.toNat (by omega)).2.2.2.1 with ⟨z1, z2, z3⟩ | z
    · exfalso
      unfold gdN at h1
      rw [z3, if_pos rfl] at h1
      omega
    · exact z
  refine ⟨⟨he.2, by omega, by omega, fun i h0 h1 => ?_, ?_, fun i h0 h1 => ?_⟩, fun i h0 h1 => ⟨fun hk => ?_, fun hk => ?_⟩, fun i j h0 h1 h2 => ?_, fun i h0 h1 => ?_, he.1, he.2⟩
  · rw [kdI i h0 (by omega)]
    have := good i h0 h1
    have R := (g i.toNat (by omega)).2.2.1
    unfold TR at R
    omega
  · cases hbd : bdT l with
    | true =>
      obtain ⟨z1, z2⟩ := hb hbd
      have e : gdN l = (l.length : Int) - 1 := by unfold gdN; rw [hbd]; rfl
      right
      rw [e, kdI _ (by omega) (by omega), show ((l.length : Int) - 1).toNat = l.length - 1 from by omega, z2]
      rfl
    | false =>
      have e : gdN l = (l.length : Int) := by unfold gdN; rw [hbd]; rfl
      left
      rw [e]
      unfold kd
      rw [if_neg (by omega), r53, if_pos (by omega)]
  · by_cases hi : i < l.length
    · obtain ⟨x1, x2, x3⟩ := M2 i.toNat (by omega)
      rw [kdI i h0 hi, x1, x2, x3, r54, if_neg (by omega)]
      exact ⟨(g i.toNat (by omega)).2.2.1, (c3 i.toNat (by omega)).2.1.symm⟩
    · have hi2 : i = l.length := by omega
      have hbd : bdT l = false := by
        cases hbd : bdT l with
        | true =>
          have e : gdN l = (l.length : Int) - 1 := by unfold gdN; rw [hbd]; rfl
          omega
        | false => rfl
      obtain ⟨x1, x2⟩ := M3 hbd
      subst hi2
      unfold kd
      rw [if_neg (by omega), r53, Int.toNat_natCast, if_pos rfl, x1, x2, r54, if_pos rfl]
      exact ⟨Or.inl ⟨rfl, rfl⟩, rfl⟩
  · rw [kdI i h0 (by omega)] at hk
    have hg := good i h0 h1
    have R := (g i.toNat (by omega)).2.2.1
    rw [idI i h0 (by omega)]
    obtain ⟨x1, x2, x3⟩ := M2 i.toNat (by omega)
    obtain ⟨d1, d2, d3, d4⟩ := c3 i.toNat (by omega)
    have hk1 : (l.getD i.toNat (0, 0, 0, 0)).1 = 1 := by
      unfold TR at R
      omega
    obtain ⟨w1, w2, w3⟩ := d3 hk1
    refine ⟨w1, w2, ?_⟩
    show m 58 (m 55 i.toNat).toNat = mr 163 i.toNat
    rw [w3, x3]
  · rw [kdI i h0 (by omega)] at hk
    have hg := good i h0 h1
    have R := (g i.toNat (by omega)).2.2.1
    rw [idI i h0 (by omega)]
    obtain ⟨x1, x2, x3⟩ := M2 i.toNat (by omega)
    obtain ⟨d1, d2, d3, d4⟩ := c3 i.toNat (by omega)
    have hk1 : (l.getD i.toNat (0, 0, 0, 0)).1 = 2 := by
      unfold TR at R
      omega
    show m 55 i.toNat = mr 163 i.toNat
    rw [d4 hk1, x3]
  · by_cases hj : j < l.length
    · rw [r54, r54, if_neg (by omega), if_neg (by omega), (c3 i.toNat (by omega)).2.1, (c3 j.toNat (by omega)).2.1]
      exact (g i.toNat (by omega)).2.2.2.2 j.toNat (by omega) (by omega)
    · rw [r54, r54, if_neg (by omega), if_pos (by omega), (c3 i.toNat (by omega)).2.1]
      exact (g i.toNat (by omega)).2.1
  · by_cases hj : i < l.length
    · rw [r54, if_neg (by omega), (c3 i.toNat (by omega)).2.1]
      have := g i.toNat (by omega)
      omega
    · rw [r54, if_pos (by omega)]
      omega
end Tks
