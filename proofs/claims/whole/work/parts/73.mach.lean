/-! CALLS THAT CHANGE THE MACHINE -/
section Mch
variable {F L D K : Nat} {xs : Nat → Int32} {m m1 m2 : Mem} {w i v : Int}
theorem adv_o : ∀ (n : Nat) (m : Mem) (a k : Nat), (a < 78 ∨ 82 < a) → (adv n m).2 a k = m a k
  | 0, _, _, _, _ => rfl
  | n + 1, m, a, k, h => by
    unfold adv
    split
    · rfl
    · show (adv n (stp m)).2 a k = m a k
      rw [adv_o n (stp m) a k h]
      unfold stp cnt
      rw [put_ne (by omega), put_ne (by omega)]
      exact tik_k a k (by omega) (by omega) (by omega) (by omega)
/-- what the class's call may have changed -/
def onlyM (m m1 : Mem) : Prop := ∀ a k, (a = 73 → k ≠ 6) → (a < 78 ∨ 82 < a) → m1 a k = m a k
theorem wmg_1 (I : INv K m) (h1 : onlyM m m1) : wmG (put m 73 6 0) m1 = m1 := wmx_id (EQv_c I.1.1 (fun a k g1 g2 => put_ne (by omega)) (fun a k g => h1 a k (by unfold mcl at g; omega) (by unfold mcl at g; omega)))
/-- the calls of the machine keep what holds -/
theorem INv_m (I : INv K m) (h1 : onlyM m m1) (h6 : m1 73 6 = 0) (W : WC m1) (h2 : ∀ a k, (a < 210 ∨ 215 < a) → (a = 158 → k ≠ 108 ∧ k ≠ 111 ∧ k ≠ 114 ∧ k ≠ 115) → m2 a k = wmG m1 m1 a k) : INv (K + 1) m2 := by
  have f : ∀ a k, ¬ mcl a k → (a < 210 ∨ 215 < a) → (a = 158 → k ≠ 108 ∧ k ≠ 111 ∧ k ≠ 114 ∧ k ≠ 115) → m2 a k = m1 a k := fun a k g1 g2 g3 => (h2 a k g2 g3).trans (wmx_o g1)
  have g : ∀ a k, a < 158 → m2 a k = m1 a k := fun a k h => f a k (by unfold mcl; omega) (by omega) (by omega)
  obtain ⟨-, T, S, Q, Z⟩ := I
  refine ⟨⟨?_, ?_⟩, ?_, ?_, ?_, ?_⟩
  · exact EQv_c (G := m1) (m := wmG m1 m1) EQv_w (fun a k g1 g2 => g a k (by omega)) (fun a k q => h2 a k (by unfold mcl at q; omega) (by unfold mcl at q; omega))
  · exact WC_c W (fun a k g1 g2 => g a k (by omega))
  · refine TXt_c T ⟨?_, ?_⟩ (fun k => ⟨?_, ?_⟩)
    · rw [g 51 1 (by omega)]; exact h1 51 1 (by omega) (by omega)
    · rw [f 158 1 (by unfold mcl; omega) (by omega) (by omega)]; exact h1 158 1 (by omega) (by omega)
    · rw [g 52 k (by omega)]; exact h1 52 k (by omega) (by omega)
    · rw [f 159 k (by unfold mcl; omega) (by omega) (by omega)]; exact h1 159 k (by omega) (by omega)
  · refine STa_m S (fun a k q => ?_)
    unfold stay at q
    rw [f a k (by unfold mcl; omega) (by omega) (by omega)]
    exact h1 a k (by omega) (by omega)
  · refine WQ_z Q ?_ (fun k => ⟨?_, ?_, ?_⟩) ?_
    · rw [g 73 0 (by omega)]; exact h1 73 0 (by omega) (by omega)
    · rw [g 74 k (by omega)]; exact h1 74 k (by omega) (by omega)
    · rw [g 75 k (by omega)]; exact h1 75 k (by omega) (by omega)
    · rw [g 77 k (by omega)]; exact h1 77 k (by omega) (by omega)
    · rw [g 73 6 (by omega)]; exact h6
  · have e : ∀ k, m2 216 k = m 216 k := fun k => by
      rw [f 216 k (by unfold mcl; omega) (by omega) (by omega)]
      exact h1 216 k (by omega) (by omega)
    exact ⟨by rw [e]; exact Z.1, fun j => by rw [e]; exact Z.2 j⟩
theorem WC_in (W : WC m) : WC (inG v m) := by
  unfold inG
  split
  · rename_i h
    obtain ⟨⟨w2, w3, w4, w5, w6, w9, w11, w79, w80, w81⟩, w12, wo, w13⟩ := W
    refine ⟨⟨w2, w3, w4, w5, w6, ?_, w11, w79, w80, fun k hk => ?_⟩, w12, wo, w13⟩
    · show 0 ≤ m 78 9 ∧ m 78 9 ≤ m 78 8 + 1 ∧ m 78 8 + 1 ≤ 200
      omega
    · show 0 ≤ (if k = (m 78 8).toNat then v % 65536 else m 81 k) ∧ (if k = (m 78 8).toNat then v % 65536 else m 81 k) < 65536
      split
      · omega
      · exact w81 k hk
  · exact W
theorem inG_o {a k : Nat} (h : a < 78 ∨ 82 < a) : inG v m a k = m a k := by
  unfold inG
  split
  · rw [put_ne (by omega), put_ne (by omega)]
  · rfl
theorem p6_o {a k : Nat} (h : a = 73 → k ≠ 6) : put m 73 6 0 a k = m a k := put_ne h
theorem b_input (I : INv K m) : Bth F (D + 32) L xs 189 324 [v] m K := by
  have W9 := I.1.2.1.2.2.2.2.2.1
  have W : WC (put m 73 6 0) := I.1.2
  have o : onlyM m (inG v (put m 73 6 0)) := fun a k g1 g2 => by rw [inG_o g2, p6_o g1]
  have c := C_189 (F := F) (L := L) (xs := xs) (d := D + 30) (m := m) (v := v) ⟨by omega, W9.2.2⟩
  have q := M_324 (F := F) (L := L) (xs := xs) (d := D + 30) (G := put m 73 6 0) (m := inG v (put m 73 6 0)) (v := v) ⟨by show 0 ≤ m 78 8; omega, W9.2.2⟩
  rw [wmg_1 I o] at q
  exact ⟨_, _, _, c, q, INv_m I o ((inG_o (a := 73) (k := 6) (by omega)).trans rfl) (WC_in W) (fun _ _ _ _ => rfl)⟩
theorem b_clear (I : INv K m) : ∃ m1 m2, Cx F (D + 32) 190 [50] (Hp L xs m) = some ([], Hp L xs m1) ∧ Cx F (D + 32) 325 [158] (Hp L xs m1) = some ([], Hp L xs m2) ∧ INv (K + 1) m2 := by
  have W : WC (put (put (put m 73 6 0) 78 8 0) 78 9 0) := by
    obtain ⟨⟨w2, w3, w4, w5, w6, w9, w11, w79, w80, w81⟩, w12, wo, w13⟩ := I.1.2
    refine ⟨⟨w2, w3, w4, w5, w6, ?_, w11, w79, w80, w81⟩, w12, wo, w13⟩
    show (0 : Int) ≤ 0 ∧ (0 : Int) ≤ 0 ∧ (0 : Int) ≤ 200
    omega
  have o : onlyM m (put (put (put m 73 6 0) 78 8 0) 78 9 0) := fun a k g1 g2 => by rw [put_ne (by omega), put_ne (by omega), p6_o g1]
  have c := C_190 (F := F) (L := L) (xs := xs) (d := D + 30) (m := m)
  have q := M_325w (F := F) (L := L) (xs := xs) (d := D + 31) (G := put m 73 6 0) (m := put (put (put m 73 6 0) 78 8 0) 78 9 0)
  rw [wmg_1 I o] at q
  exact ⟨_, _, c, q, INv_m I o rfl W (fun _ _ _ _ => rfl)⟩
theorem b_clock (hF : 100000 ≤ F) (I : INv K m) : Bth F (D + 32) L xs 192 327 [v] m K := by
  have c := C_192 (F := F) (L := L) (xs := xs) (d := D + 26) (m := m) (v := v) hF I.1.2
  by_cases h : v < 0 ∨ 5000 < v
  · rw [if_pos h] at c
    exact Bth_e I c (M_327o h) rfl
  · rw [if_neg h] at c
    have W : WC (put m 73 6 0) := I.1.2
    have o : onlyM m (adv v.toNat (put m 73 6 0)).2 := fun a k g1 g2 => by rw [adv_o _ _ _ _ g2, p6_o g1]
    have q := M_327 (F := F) (L := L) (xs := xs) (d := D + 27) (G := put m 73 6 0) (m := (adv v.toNat (put m 73 6 0)).2) (q := v) W (by omega) (by omega) hF
    rw [wmg_1 I o] at q
    exact ⟨_, _, _, c, q, INv_m I o ((adv_o _ _ 73 6 (by omega)).trans rfl) (adv_W _ W) (fun _ _ _ _ => rfl)⟩
theorem rsm_o {a k : Nat} {sz : Int} {f : Nat → Int} (h : a < 78 ∨ 82 < a) : rsm sz f m a k = m a k := by
  unfold rsm
  rw [put_ne (by omega), put_ne (by omega), put_ne (by omega), put_ne (by omega), put_ne (by omega), put_ne (by omega), put_ne (by omega), put_ne (by omega)]
  unfold row
  rw [if_neg (by omega), if_neg (by omega)]
/-- the program's words, for both -/
theorem cd_w {cd : Nat} (hc : cd = 83 ∨ cd = 93) (c4 : CDx cd m) (W : WC m) : WC (rsm (m cd 12) (m (cd + 9)) (put m 73 6 0)) := by
  obtain ⟨-, -, f3⟩ := CDx_f c4
  have e : put m 73 6 0 (cd + 9) = m (cd + 9) := by
    rcases hc with rfl | rfl <;> rfl
  have W1 : WC (put m 73 6 0) := W
  have z := rsm_WC (cd := cd) (sz := m cd 12) W1 (fun k hk => by
    rw [e]
    obtain ⟨z1, z2⟩ := f3 k hk
    rw [z1]
    exact z2)
  rw [e] at z
  exact z
theorem b_reset (hF : 100000 ≤ F) (I : INv K m) : Bth F (D + 32) L xs 191 326 [] m K := by
  obtain ⟨cd, ot, c1, c2, c3, c4⟩ := I.2.2.1.2.2.2.2.2.1
  have hc : cd = 83 ∨ cd = 93 := by omega
  obtain ⟨-, -, f3⟩ := CDx_f c4
  rcases CDx_s hc c4 with ⟨z1, z2⟩ | ⟨z1, z2, z3, z4⟩
  · have q := M_326_0 (F := F) (L := L) (xs := xs) (d := D + 31) (G := m) (m := m) z1
    rw [wmx_id I.1.1] at q
    exact Bth_e I (C_191_0 (d := D + 24) hc c2 z2) q rfl
  · have W := cd_w hc c4 I.1.2
    have o : onlyM m (rsm (m cd 12) (m (cd + 9)) (put m 73 6 0)) := fun a k g1 g2 => by rw [rsm_o g2, p6_o g1]
    have c := C_191 (F := F) (L := L) (xs := xs) (d := D + 24) (m := m) (sz := m cd 12) hF hc c2 rfl (by omega)
    have q := M_326 (F := F) (L := L) (xs := xs) (d := D + 31) (G := put m 73 6 0) (m := rsm (m cd 12) (m (cd + 9)) (put m 73 6 0)) (sz := m cd 12) (w := m (cd + 9)) hF ((o 158 54 (by omega) (by omega)).trans z1) ((o 158 68 (by omega) (by omega)).trans z2.symm) (fun k hk => (o 193 k (by omega) (by omega)).trans (f3 k hk).1.symm) (by omega)
    rw [wmg_1 I o] at q
    exact ⟨_, _, _, c, q, INv_m I o ((rsm_o (a := 73) (k := 6) (by omega)).trans rfl) W (fun _ _ _ _ => rfl)⟩
theorem b_run (hF : 100000 ≤ F) (I : INv K m) : Bth F (D + 32) L xs 193 328 [] m K := by
  obtain ⟨cd, ot, c1, c2, c3, c4⟩ := I.2.2.1.2.2.2.2.2.1
  have hc : cd = 83 ∨ cd = 93 := by omega
  obtain ⟨-, -, f3⟩ := CDx_f c4
  rcases CDx_s hc c4 with ⟨z1, z2⟩ | ⟨z1, z2, z3, z4⟩
  · have q := M_328_0 (F := F) (L := L) (xs := xs) (d := D + 26) (G := m) (m := m) z1
    rw [wmx_id I.1.1] at q
    exact Bth_e I (C_193_0 (d := D + 24) hc c2 z2) q rfl
  · have W := cd_w hc c4 I.1.2
    have c := C_193 (F := F) (L := L) (xs := xs) (d := D + 24) (m := m) (sz := m cd 12) hF hc c2 rfl (by omega) I.1.2 (fun k hk => by
      obtain ⟨y1, y2⟩ := f3 k hk
      rw [y1]
      exact y2)
    have W2 := adv_W 20000 W
    have o : onlyM m (adv 20000 (rsm (m cd 12) (m (cd + 9)) (put m 73 6 0))).2 := fun a k g1 g2 => by rw [adv_o _ _ _ _ g2, rsm_o g2, p6_o g1]
    have h6 : (adv 20000 (rsm (m cd 12) (m (cd + 9)) (put m 73 6 0))).2 73 6 = 0 := by
      rw [adv_o 20000 _ 73 6 (by omega), rsm_o (a := 73) (k := 6) (by omega)]
      rfl
    have hQ : ∃ np n fe h u nc cs, PRQ m np n fe h u nc cs := by
      rcases c4 with ⟨y1, -⟩ | ⟨-, y2, -⟩
      · omega
      · exact y2
    obtain ⟨np, n, fe, h, u, nc, cs, Q⟩ := hQ
    generalize hX : (adv 20000 (rsm (m cd 12) (m (cd + 9)) (put m 73 6 0))).2 = X at *
    have QX : PRQ X np n fe h u nc cs := PRQ_m Q (fun k g1 g2 => o 158 k (by omega) (by omega)) (fun a k g1 g2 => o a k (by omega) (by omega))
    obtain ⟨Z, q, Z2, hZ, fZ⟩ := M_328 (F := F) (L := L) (xs := xs) (d := D + 26) (G := put m 73 6 0) (m := X) (sz := m cd 12) (w := m (cd + 9)) hF ((o 158 54 (by omega) (by omega)).trans z1) QX ((o 158 68 (by omega) (by omega)).trans z2.symm) (fun k hk => (o 193 k (by omega) (by omega)).trans (f3 k hk).1.symm) W (by omega)
    rw [wmg_1 I o, hX] at q
    rw [hX] at hZ fZ
    refine ⟨_, _, _, c, q, INv_m I o h6 W2 (fun a k g1 g2 => ?_)⟩
    rw [hZ]
    by_cases cc : mcl a k
    · exact wmx_c cc
    · rw [wmx_o cc]
      exact fZ a k g1 g2
end Mch
