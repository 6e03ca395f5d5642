/-! WHAT STANDS BEHIND raises: conditions, each once -/
section Rtk
variable {m m0 : Mem} {e : Int} {V : Int → Int} {cd : Nat}
theorem dup_d (C : XC0 m e) {i : Int} (h0 : 0 ≤ i) (h1 : i ≤ e) : ∀ (w : List Int) (s : xSt), NF (dupB m i w s) → ∀ j ∈ w, idT m j ≠ idT m i
  | [], s => fun _ j hj => absurd hj List.not_mem_nil
  | k :: r, s => fun h j hj => by
    have e1 : dupB m i (k :: r) s = dupB m i r (if idT m k = idT m i then bl m i s else s) := rfl
    rw [e1] at h
    have z := dup_n0 C h0 h1 r _ h
    rw [List.mem_cons] at hj
    rcases hj with rfl | hj
    · intro c
      rw [z, if_pos c] at h
      exact bl_n0 C h0 h1 h
    · exact dup_d C h0 h1 r _ h j hj
/-- conditions, each once -/
def RsK (m : Mem) (e : Int) (l : List Int) : Prop := (∀ x ∈ l, (0 ≤ x ∧ x < e) ∧ kd m x = 2 ∧ kI m (idT m x) = 3) ∧ (l.map (idT m)).Nodup
theorem RsK_tk (C : XC0 m e) {f : Int} : ∀ (k : Nat) (t : xT), tsz t < k → ∀ (p q : Int), PN (kd m) t p q → 0 ≤ p → q ≤ e → ∀ (n : Nat) (s : xSt), p = f + 2 * (n : Int) → NF (rsF m f t n s) → RsK m e (tkN t) ∧ ∀ x ∈ tkN t, ∀ j ∈ sq f n, idT m j ≠ idT m x := by
  intro k
  induction k with
  | zero => intro t ht; exact absurd ht (Nat.not_lt_zero _)
  | succ k ih =>
    intro t ht p q h hp hq n s hpn nf
    have one : p ≤ e → NF (dupB m p (sq f n) (us m p 3 s)) → kI m (idT m p) = 3 ∧ ∀ j ∈ sq f n, idT m j ≠ idT m p := fun hpe g => by
      have d := dup_d C hp hpe _ _ g
      have z := dup_n0 C hp hpe _ _ g
      rw [z] at g
      exact ⟨(us_n0 C hp hpe g).1, d⟩
    rcases inv_N h with ⟨a, b, rfl, g1, g2, g3⟩ | ⟨a, b, rfl, g1, g2, g3⟩
    · obtain ⟨o1, o2⟩ := one (by omega) nf
      have e0 : tkN (nd 45 p a b) = [p] := rfl
      rw [e0]
      refine ⟨⟨fun x hx => ?_, ?_⟩, fun x hx => ?_⟩
      · rw [List.mem_singleton] at hx
        subst hx
        exact ⟨⟨hp, by omega⟩, g1, o1⟩
      · show [idT m p].Nodup
        exact List.nodup_cons.mpr ⟨List.not_mem_nil, List.nodup_nil⟩
      · rw [List.mem_singleton] at hx
        subst hx
        exact o2
    · rw [tsz_nd] at ht
      have hl := PN_n b g3
      have e0 : rsF m f (nd 46 p a b) n s = rsF m f b (n + 1) (dupB m p (sq f n) (us m p 3 s)) := rfl
      rw [e0] at nf
      have n1 : NF (dupB m p (sq f n) (us m p 3 s)) := rsF_inv (m := m) (Q := fun s1 => NF s1 → NF (dupB m p (sq f n) (us m p 3 s))) NF_k b (n + 1) _ (fun g => g) nf
      obtain ⟨o1, o2⟩ := one (by omega) n1
      obtain ⟨⟨b1, b2⟩, b3⟩ := ih b (by omega) _ _ g3 (by omega) hq (n + 1) _ (by omega) nf
      have e1 : tkN (nd 46 p a b) = p :: tkN b := rfl
      have e2 : sq f (n + 1) = sq f n ++ [p] := by rw [sq_s, hpn]
      rw [e2] at b3
      rw [e1]
      refine ⟨⟨fun x hx => ?_, ?_⟩, fun x hx j hj => ?_⟩
      · rw [List.mem_cons] at hx
        rcases hx with rfl | hx
        · exact ⟨⟨hp, by omega⟩, g1, o1⟩
        · exact b1 x hx
      · show (idT m p :: (tkN b).map (idT m)).Nodup
        refine List.nodup_cons.mpr ⟨fun hm => ?_, b2⟩
        obtain ⟨x, hx, hx2⟩ := List.mem_map.1 hm
        exact b3 x hx p (List.mem_append.2 (Or.inr (List.mem_singleton.2 rfl))) hx2.symm
      · rw [List.mem_cons] at hx
        rcases hx with rfl | hx
        · exact o2 j hj
        · exact b3 x hx j (List.mem_append.2 (Or.inl hj))
theorem RsK_Pr (C : XC0 m e) {a : xT} {q0 r : Int} {s : xSt} {y : yS} (hP : PH (kd m) V a (q0 + 3) r) (h0 : 0 ≤ q0) (hr : r ≤ e) (nf : NF (xPr cd m a s y).1) : RsK m e (rsT a) := by
  obtain ⟨i, pa, i2, ra, bk, rfl, r1, s1, g1, g2, g3, g4⟩ := inv_H hP
  have l4 := P_le bk g4
  have l1 : q0 + 3 ≤ r1 := by
    rcases g1 with ⟨_, _, g⟩ | ⟨_, _, g⟩
    · omega
    · have := PN_n pa g
      omega
  have n5 : NF (p5 m bk (p2 m i2 ra (p1 m i pa s y).1) (p1 m i pa s y).2).1 := nf
  have n4 := NF_stS (c := (em 0 (m 68 4) (-1) (p2 m i2 ra (p1 m i pa s y).1), nlb (p1 m i pa s y).2)) n5
  have n2 : NF (p2 m i2 ra (p1 m i pa s y).1) := n4
  have er : rsT (nd 47 i pa (nd 48 i2 ra bk)) = if i2 = 0 then [] else tkN ra := rfl
  rw [er]
  unfold p2 at n2
  by_cases c : i2 = 0
  · rw [if_pos c]
    exact ⟨fun x hx => absurd hx List.not_mem_nil, List.nodup_nil⟩
  · rw [if_neg c] at n2 ⊢
    rcases g3 with ⟨g, _⟩ | ⟨_, _, g⟩
    · contradiction
    · have ef : frt ra = r1 + 2 := by
        rcases inv_N g with ⟨a, b, rfl, _⟩ | ⟨a, b, rfl, _⟩ <;> rfl
      rw [ef] at n2
      exact (RsK_tk C (tsz ra + 1) ra (by omega) _ _ g (by omega) (by omega) 0 _ (by omega) n2).1
theorem RsK_K (K : Kp m0 m) {l : List Int} (h : RsK m e l) : RsK m0 e l := by
  unfold RsK at h ⊢
  rw [kI_K K, idT_K K, Kp_kd K] at h
  exact h
theorem RsK_To (hc : cd = 83 ∨ cd = 93) (C : XC0 m0 e) : ∀ (k : Nat) (t : xT), tsz t < k → ∀ (p : Int) (c : wS), PT (kd c.2.2.2) V t p e → 0 ≤ p → Kp m0 c.2.2.2 → NF (xTo cd t c).1 → ∀ l ∈ rT t, RsK m0 e l := by
  intro k
  induction k with
  | zero => intro t ht; exact absurd ht (Nat.not_lt_zero _)
  | succ k ih =>
    intro t ht p c h hp K nf
    have l0 := PT_le (tsz t + 1) t (by omega) _ _ h
    rcases inv_T h with ⟨i, a, b, rfl, g1, g2⟩ | ⟨a, b, rfl, g1, g2, g3, g4⟩ | ⟨a, b, rfl, g1, g2, g3, g4, g5, g6, g7⟩ | ⟨a, b, rfl, g1, r, g2, g3, g4⟩ | ⟨a, b, rfl, g1, g2, g3, r, g4, g5⟩
    · intro l hl
      exact absurd hl List.not_mem_nil
    · rw [tsz_nd] at ht
      exact ih b (by omega) _ c g4 (by omega) K nf
    · rw [tsz_nd] at ht
      exact ih b (by omega) _ c g7 (by omega) K nf
    · rw [tsz_nd] at ht
      have := PN_n a g2
      exact ih b (by omega) _ c g4 (by omega) K nf
    · rw [tsz_nd] at ht
      have hph := PH_lt g4
      have hle := PT_le (tsz b + 1) b (by omega) _ _ g5
      have Kx := Kp_xPr (cd := cd) hc (m := c.2.2.2) (s := c.1) (y := c.2.1) g4
      have nf : NF (xTo cd b (xPr cd c.2.2.2 a c.1 c.2.1)).1 := nf
      have n1 := NF_xTo (tsz b + 1) b (by omega) _ _ g5 nf
      have R1 := RsK_K K (RsK_Pr (cd := cd) (XC0_K K C) g4 hp (by omega) n1)
      have g5' : PT (kd (xPr cd c.2.2.2 a c.1 c.2.1).2.2.2) V b r e := by rw [Kp_kd Kx]; exact g5
      have B := ih b (by omega) r (xPr cd c.2.2.2 a c.1 c.2.1) g5' (by omega) (Kp_tr K Kx) nf
      intro l hl
      have hl : l ∈ rsT a :: rT b := hl
      rw [List.mem_cons] at hl
      rcases hl with rfl | hl
      · exact R1
      · exact B l hl
end Rtk
