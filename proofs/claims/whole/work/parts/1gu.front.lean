/-! BOTH FRONTS: what stands before judging -/
section Frn
variable {mc mr : Mem} {n : Int} {b : Nat → Int}
theorem Ju_mk (hn : n ≤ 1300) (Y : BY mc b n) (Z : MTp mr b n) (h687 : mc 68 7 = 0) (h688 : 0 ≤ mc 68 8 ∧ mc 68 8 ≤ 1600) : Ju (mcF mc b n) (mrF mr b n) (gdN (tks b n (n + 1).toNat 0)) ∧ mcF mc b n 57 8 = 0 ∧ (0 ≤ mcF mc b n 57 4 ∧ mcF mc b n 57 4 < 1510) := by
  obtain ⟨C, T6, I, G, g15, g61, hl⟩ := mcF_ok hn Y
  obtain ⟨⟨r3, r1, r11, r14, r15, r9, r10, r16, r36, r46, r41, r39⟩, m2, m3, hS, hB⟩ := mrF_ok hn Z
  have hn0 := Y.2.1
  have hBB : BB b n := ⟨Y.2.1, Y.2.2.1, fun k hk => (Y.2.2.2 k hk).2⟩
  have hLG := LG_tks hBB (n + 1).toNat 0 (Int.le_refl 0) hn0
  have M : mrF mr b n 158 4 = ((tks b n (n + 1).toNat 0).length : Int) + 1 ∨ bdT (tks b n (n + 1).toNat 0) = true := by
    cases hb : bdT (tks b n (n + 1).toNat 0) with
    | true => exact Or.inr rfl
    | false =>
      left
      have e1 : mrF mr b n 158 4 = mSp (mrP mr n) n (tks b n (n + 1).toNat 0) 158 4 := by
        unfold mrF
        rw [put_ss, if_pos rfl, if_neg (by decide)]
      have e2 : mSp (mrP mr n) n (tks b n (n + 1).toNat 0) = aM (aMs (put (mrP mr n) 158 4 0) (tks b n (n + 1).toNat 0)) 0 n 0 := by
        unfold mSp
        rw [hb]
        rfl
      have e3 : ∀ X : Mem, aM X 0 n 0 158 4 = X 158 4 + 1 := fun X => rfl
      have e4 : put (mrP mr n) 158 4 0 158 4 = 0 := rfl
      rw [e1, e2, e3, aMs_n, e4, Int.zero_add]
  obtain ⟨t1, t2, t3, t4, t5, t6⟩ := TK_mk hn0 hLG C (by omega) M m2 m3
  have K : ∀ a k, 61 < a → mcF mc b n a k = mc a k := fun a k ha => KcF_F a k (by omega)
  refine ⟨⟨t1, t2, I, T6, G, g15, g61, t3, fun i h0 h1 => by have w : 0 ≤ mcF mc b n 54 i.toNat ∧ mcF mc b n 54 i.toNat ≤ n := t4 i h0 h1; exact ⟨w.1, by omega⟩, by omega, by rw [K 68 7 (by decide)]; exact h687, by rw [K 68 8 (by decide)]; exact h688, r14, r15, r16, r41, hS, hB⟩, ?_, ?_⟩
  · have K2 := KC_tkFs (tks b n (n + 1).toNat 0) (put (bgM (c0M mc)) 51 5 0)
    have q : mcF mc b n 57 8 = bgM (c0M mc) 57 8 := by
      show tkFs (put (bgM (c0M mc)) 51 5 0) (tks b n (n + 1).toNat 0) 57 8 = _
      rw [K2 57 8 (by omega)]
      rfl
    rw [q, bg_57 8 (by decide) (by decide)]
    rfl
  · have B := (C_146 (F := 100000) (L := 0) (xs := fun _ => 0) (d := 0) (m := c0M mc) (by omega)).2
    obtain ⟨k1, k2, k3⟩ := tkFs_n (tks b n (n + 1).toNat 0) (put (bgM (c0M mc)) 51 5 0)
    have e4 : put (bgM (c0M mc)) 51 5 0 57 4 = 5 := B.1
    have q4 : mcF mc b n 57 4 = tkFs (put (bgM (c0M mc)) 51 5 0) (tks b n (n + 1).toNat 0) 57 4 := rfl
    rw [q4]
    omega
end Frn
