/-! BOTH LAY: what else laying tells -/
section La2
variable {F L d d2 : Nat} {xs : Nat → Int32} {m M m0 : Mem} {cd : Nat} {fe : Nat → Nat} {np n : Nat} {nv nc mn : Int} {sz wt h : Nat → Int}
theorem A6x (hF : 100000 ≤ F) (T : TyP (M 177) (M 178) (tgM M) fe np n (M 170) (M 168) nv nc sz wt h) (D : MD M np n nv) (hnc : nc ≤ 30) (hsz : ∀ p, p < np → sz p = M 170 p + 2 + M 171 p) (hwt : ∀ p, p < np → wt p = w32 (2 + M 171 p + M 183 p + 3)) (X : CDt (put m 71 1 (cd : Int)) cd M fe np n nv mn sz wt) (hM : put (put m0 158 83 8) 158 84 38 = M) (hB : LyB m cd) (hB0 : MyB m0) : ∃ (S2 : lS) (Q2 : Nat → Int) (i6 p7 w4 sz2 : Int) (Tm : mSt) (Qm W : Nat → Int), TB2 S2 Q2 i6 p7 w4 sz2 ∧ MyB (yEnd Tm Qm m0 M (M 182 mn.toNat) n nv.toNat) ∧ Cx F (d + 16) 36 [71, (cd : Int)] (Hp L xs m) = some ([if 6000 < yEnd Tm Qm m0 M (M 182 mn.toNat) n nv.toNat 158 74 + yEnd Tm Qm m0 M (M 182 mn.toNat) n nv.toNat 158 75 then 0 else 1], Hp L xs (lyS S2 cd (qv cd Q2 i6 p7 (uv cd w4 sz2 (put m 71 1 (cd : Int)))))) ∧ Cx F (d2 + 30) 289 [158, mn] (Hp L xs m0) = some ([], Hp L xs (cv W (yEnd Tm Qm m0 M (M 182 mn.toNat) n nv.toNat))) ∧ b01 (eEnd m0 M (M 182 mn.toNat) n) ∧ (0 ≤ yEnd Tm Qm m0 M (M 182 mn.toNat) n nv.toNat 158 74 ∧ yEnd Tm Qm m0 M (M 182 mn.toNat) n nv.toNat 158 74 ≤ 100000) ∧ (0 ≤ yEnd Tm Qm m0 M (M 182 mn.toNat) n nv.toNat 158 75 ∧ yEnd Tm Qm m0 M (M 182 mn.toNat) n nv.toNat 158 75 ≤ 100000) ∧ m 57 8 = yEnd Tm Qm m0 M (M 182 mn.toNat) n nv.toNat 158 75 ∧ (¬ 6000 < yEnd Tm Qm m0 M (M 182 mn.toNat) n nv.toNat 158 74 + yEnd Tm Qm m0 M (M 182 mn.toNat) n nv.toNat 158 75 → sz2 = yEnd Tm Qm m0 M (M 182 mn.toNat) n nv.toNat 158 74 ∧ (∀ q, q < n → Q2 q = yEnd Tm Qm m0 M (M 182 mn.toNat) n nv.toNat 180 q) ∧ ∀ k : Nat, (k : Int) < sz2 → S2.2.2.2.2 k = W k) ∧ chE M (M 182 mn.toNat) n (eEnd m0 M (M 182 mn.toNat) n) = false ∧ LM M (M 182 mn.toNat) n ∧ (∃ C, CdOk C (itA M (eEnd m0 M (M 182 mn.toNat) n) (M 182 mn.toNat) n) 0) ∧ WdOk (gP (yEnd Tm Qm m0 M (M 182 mn.toNat) n nv.toNat)) (ntv (yEnd Tm Qm m0 M (M 182 mn.toNat) n nv.toNat)) W (itA M (eEnd m0 M (M 182 mn.toNat) n) (M 182 mn.toNat) n) 0 ∧ (∀ i, i ∈ itA M (eEnd m0 M (M 182 mn.toNat) n) (M 182 mn.toNat) n → i.2.1 = 4 → (0 ≤ i.2.2 ∧ i.2.2 < (n : Int)) ∨ i.2.2 = -1 ∨ (0 ≤ -10 - i.2.2 ∧ -10 - i.2.2 < nv)) := by
  have K := CLM_mk T D hnc hsz hwt X
  have KM := K.2.1
  have hO := KM.1
  obtain ⟨d41, d25, d21, dnp, dn, dnv, d168, d179, dR, d36, d175, d83, d84⟩ := D
  obtain ⟨hc, ⟨x1, x0⟩, xo, ⟨x5, x7, x14, x4, x8⟩, xv, xp, xPA, xr, xc, xn, xf, xm, xmn⟩ := X
  obtain ⟨b1, b2, b3, b4⟩ := hB0
  have hv := vsm_b d168
  have x182 : ∀ p, p < np → M 182 p = (fe p : Int) := fun p hp => (xp p hp).2.2.2.2
  have he0 : 0 ≤ M 182 mn.toNat ∧ M 182 mn.toNat < (n : Int) := by
    have S := T.1
    have hfe := T.2.1
    have f3 := sg_mo S (p := mn.toNat + 1) np (by omega) (Nat.le_refl _)
    have f4 := (S.2 mn.toNat (by omega)).1
    rw [x182 _ (by omega)]
    omega
  generalize he : M 182 mn.toNat = e0 at *
  have hnt := fun E (_ : b01 E) => NtS (E := E) T hO x182 he0
  have env : ((nv.toNat : Nat) : Int) = nv := by omega
  obtain ⟨Tm, Qm, hqQ, hb, hch, c289⟩ := M_289q (F := F) (L := L) (d := d2) (xs := xs) (main := mn) (v := nv.toNat) hF KM hM ⟨xmn.1, by omega⟩ he b1 b2 b3 (by rw [d21, env]) (by omega) (fun k hk => by have := hv k (by omega); omega) (fun k => by rw [← hM]; exact b4 k) (fun E hE i hi h4 => by
    rcases hnt E hE i hi h4 with w | w | w
    · exact Or.inl ⟨w.1, by omega⟩
    · exact Or.inr (Or.inl w)
    · exact Or.inr (Or.inr ⟨w.1, by omega⟩)) (fun E hE => by
    unfold itA
    rw [nno_app, hdI_g.2]
    have z := (mlI_n (c0 := 0) (m := fv E M) hO n (Nat.le_refl _)).2
    omega)
  obtain ⟨S2, Q2, i6, p7, w4, sz2, t1, t2, t3⟩ := C_36 (F := F) (L := L) (d := d) (xs := xs) (X := m0 198) hF K hB b1
  have eE : itr M e0 n 6001 (fz (m0 198) 36000) = eEnd m0 M e0 n := rfl
  rw [eE] at t2 t3
  have y74 : yEnd Tm Qm m0 M e0 n nv.toNat 158 74 = 82 + ((mlI (fv (eEnd m0 M e0 n) M) 0 n).length : Int) := by
    have z := (mI_n (itA M (eEnd m0 M e0 n) e0 n) (rs Tm)).1
    have z2 : (rs Tm).1 = 0 := rfl
    rw [z2, Int.zero_add] at z
    have hl : ((itA M (eEnd m0 M e0 n) e0 n).length : Int) = 82 + ((mlI (fv (eEnd m0 M e0 n) M) 0 n).length : Int) := by
      unfold itA
      rw [List.length_append, hdI_l]
      omega
    rw [← hl]
    exact z
  have y75 : yEnd Tm Qm m0 M e0 n nv.toNat 158 75 = vsm M nv.toNat := rfl
  have x8' : m 57 8 = vsm M nv.toNat := x8
  have hb8 := hv nv.toNat (by omega)
  have hok := mI_ok (itA M (eEnd m0 M e0 n) e0 n) (rs Tm) (Int.le_refl 0) (Int.le_refl 0) (Int.le_refl 0)
  have hsz2 := KM.2.2.2.2.2.1 (eEnd m0 M e0 n) hb n (Nat.le_refl _)
  refine ⟨S2, Q2, i6, p7, w4, sz2, Tm, Qm, _, t1, MyB_y KM (fun k hk => by have := hv k (by omega); omega) (fun k => by rw [← hM]; exact b4 k) hqQ hb, ?_, c289, hb, by rw [y74]; omega, by rw [y75]; omega, by rw [y75]; exact x8', fun hfit => ?_, hch, KM, ⟨_, hok.1⟩, pat_ok (Wf_A hO) 0 _ (Int.le_refl 0) hok.1, fun i hi h4 => hnt _ hb i hi h4⟩
  · rw [t2, y74, y75, x8']
    by_cases c : 82 + ((mlI (fv (eEnd m0 M e0 n) M) 0 n).length : Int) + vsm M nv.toNat ≤ 6000
    · rw [if_pos c, if_neg (by omega)]
    · rw [if_neg c, if_pos (by omega)]
  · rw [y74, y75] at hfit
    obtain ⟨u1, u2, u3⟩ := t3 (by rw [x8']; omega)
    refine ⟨by rw [y74]; exact u1, fun q hq => ?_, ?_⟩
    · rw [u2 q hq]
      show _ = plq 82 (fv (eEnd m0 M e0 n) M) 0 Qm n q
      unfold plq
      rw [if_pos hq]
    · exact words_eq (T := Tm) (Q := Qm) (v := nv.toNat) hc KM hb u1 x0 u2 (by rw [x5, env]) x8 (fun k hk => (xv k (by omega)).2) (fun i hi h4 => by
        rcases hnt (eEnd m0 M e0 n) hb i hi h4 with w | w | w
        · exact Or.inl w
        · exact Or.inr (Or.inl w)
        · exact Or.inr (Or.inr ⟨w.1, by omega⟩)) u3
end La2
section Kpz
variable {Y : Mem} {mn : Int}
/-- the cells that keeping fills -/
theorem kMM_c (h41 : 0 ≤ Y 158 41 ∧ Y 158 41 ≤ 12000) (h25 : 0 ≤ Y 158 25 ∧ Y 158 25 ≤ 40) (h74 : 0 ≤ Y 158 74) (h21 : 0 ≤ Y 158 21) : (∀ i : Nat, (i : Int) < Y 158 41 → kMM Y mn 184 i = Y 177 i ∧ kMM Y mn 185 i = Y 178 i ∧ kMM Y mn 186 i = tgM Y i ∧ kMM Y mn 187 i = Y 180 i) ∧ (∀ p : Nat, (p : Int) < Y 158 25 → kMM Y mn 188 p = Y 170 p ∧ kMM Y mn 189 p = szM Y p ∧ kMM Y mn 190 p = wtM Y p ∧ kMM Y mn 191 p = Y 182 p ∧ ∀ c, c < 40 → kMM Y mn 192 (40 * p + c) = if rsB Y p c = true then 1 else 0) ∧ (kMM Y mn 158 67 = mn ∧ kMM Y mn 158 68 = Y 158 74 ∧ kMM Y mn 158 70 = Y 158 75 ∧ kMM Y mn 158 71 = Y 158 21) ∧ (∀ k : Nat, (k : Int) < Y 158 74 → kMM Y mn 193 k = Y 195 k) ∧ (∀ k : Nat, (k : Int) < Y 158 21 → kMM Y mn 194 k = Y 168 k) ∧ (kMM Y mn 158 54 = 1 ∧ kMM Y mn 158 55 = Y 158 41 ∧ kMM Y mn 158 60 = Y 158 25 ∧ kMM Y mn 158 61 = Y 158 24 - 1) := by
  refine ⟨fun i hi => ⟨?_, ?_, ?_, ?_⟩, fun p hp => ⟨?_, ?_, ?_, ?_, fun c hc => ?_⟩, ⟨rfl, rfl, rfl, rfl⟩, fun k hk => ?_, fun k hk => ?_, ⟨rfl, rfl, rfl, rfl⟩⟩
  · show (if i < (Y 158 41).toNat then Y 177 i else Y 184 i) = _
    rw [if_pos (by omega)]
  · show (if i < (Y 158 41).toNat then Y 178 i else Y 185 i) = _
    rw [if_pos (by omega)]
  · show (if i < (Y 158 41).toNat then tgM (put (put Y 158 54 1) 158 55 (Y 158 41)) i else Y 186 i) = _
    rw [if_pos (by omega)]
    rfl
  · show (if i < (Y 158 41).toNat then Y 180 i else Y 187 i) = _
    rw [if_pos (by omega)]
  · show (if p < (Y 158 25).toNat then Y 170 p else Y 188 p) = _
    rw [if_pos (by omega)]
  · show (if p < (Y 158 25).toNat then szM Y p else Y 189 p) = _
    rw [if_pos (by omega)]
  · show (if p < (Y 158 25).toNat then wtM Y p else Y 190 p) = _
    rw [if_pos (by omega)]
  · show (if p < (Y 158 25).toNat then Y 182 p else Y 191 p) = _
    rw [if_pos (by omega)]
  · show (if 40 * p + c < 40 * (Y 158 25).toNat then rsF2 Y (40 * p + c) else Y 192 (40 * p + c)) = _
    rw [if_pos (by omega)]
    unfold rsF2
    rw [show (40 * p + c) / 40 = p from by omega, show (40 * p + c) % 40 = c from by omega]
  · show (if k < (Y 158 74).toNat then Y 195 k else Y 193 k) = _
    rw [if_pos (by omega)]
  · show (if k < (Y 158 21).toNat then Y 168 k else Y 194 k) = _
    rw [if_pos (by omega)]
end Kpz
