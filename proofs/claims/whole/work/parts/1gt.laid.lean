/-! BOTH LAY, and lay the same -/
section Lad
variable {F L d d2 : Nat} {xs : Nat → Int32} {m M m0 : Mem} {cd : Nat} {fe : Nat → Nat} {np n : Nat} {nv nc mn : Int} {sz wt h : Nat → Int}
theorem hdI_nt {e : Int} : GN 0 (fun t => t = -1 ∨ t = e) (hdI e) := by
  unfold hdI
  exact GN_app GN_L (GN_app (GN_N (Or.inl rfl)) (GN_app GN_L (GN_app (GN_N (Or.inr rfl)) (GN_app GN_L (GN_app GN_L (GN_app (GN_m _) (GN_m _)))))))
theorem NtS (T : TyP (M 177) (M 178) (tgM M) fe np n (M 170) (M 168) nv nc sz wt h) (hO : OK0 M n) (x182 : ∀ p, p < np → M 182 p = (fe p : Int)) {E : Nat → Int} {e0 : Int} (he0 : 0 ≤ e0 ∧ e0 < (n : Int)) : ∀ i, i ∈ itA M E e0 n → i.2.1 = 4 → (0 ≤ i.2.2 ∧ i.2.2 < (n : Int)) ∨ i.2.2 = -1 ∨ (0 ≤ -10 - i.2.2 ∧ -10 - i.2.2 < nv) := fun i hi h4 => by
  unfold itA at hi
  rw [List.mem_append] at hi
  rcases hi with hi | hi
  · rcases (hdI_nt i hi).2 h4 with w | w
    · exact Or.inr (Or.inl w)
    · rw [w]
      exact Or.inl he0
  · obtain ⟨q, hq1, hq2⟩ := mem_ml2 (M := fv E M) hO n (Nat.le_refl _) hi
    obtain ⟨o1, o2, o3, o4, -⟩ := hO q hq1
    rw [dM_f] at hq2
    obtain ⟨S, hfe, hq⟩ := T
    obtain ⟨p, hp, f1, f2⟩ := sg_find S np (Nat.le_refl _) q (by omega)
    obtain ⟨ml, mx, ⟨q1, q2, q3, q4⟩, -⟩ := hq p hp
    rcases (itO_gn o1 o4 i hq2).2 h4 with ⟨a1, a2, a3⟩ | ⟨a1, a3⟩
    · rcases sg_op S hp f1 f2 with ⟨a, b, c⟩ | ⟨a, b, c⟩ | ⟨c, a, b⟩
      · omega
      · omega
      · obtain ⟨u, -⟩ := q4 q c.1 c.2
        have hx : 0 ≤ M 178 q ∧ M 178 q < nv := by
          by_cases c5 : M 177 q = 4 ∨ M 177 q = 5
          · exact (u.2.2.2.2.1 c5).1
          · exact u.2.2.2.2.2.1 (by omega)
        right
        right
        rw [a3]
        omega
    · rcases sg_op S hp f1 f2 with ⟨a, b, c⟩ | ⟨a, b, c⟩ | ⟨c, a, b⟩
      · omega
      · omega
      · obtain ⟨u, -⟩ := q4 q c.1 c.2
        have hx := u.2.2.2.2.2.2.2.1 a1
        have ey : yM (pv (fun _ => 0) (cq M 0 (q + 1)) M) (M 177 q) (M 178 q) = M 182 (M 178 q).toNat := by
          rw [a1]
          rfl
        have f3 := sg_mo S (p := (M 178 q).toNat + 1) np (by omega) (Nat.le_refl _)
        have f4 := (S.2 (M 178 q).toNat (by omega)).1
        left
        rw [a3, ey, x182 _ (by omega)]
        omega
/-- what must stand in the model's own cells of laying -/
def MyB (m0 : Mem) : Prop := b01 (m0 198) ∧ (∀ k : Nat, 0 ≤ m0 180 k ∧ m0 180 k ≤ 1000000) ∧ (0 ≤ m0 158 85 ∧ m0 158 85 < 1600) ∧ (∀ k : Nat, 0 ≤ m0 169 k ∧ m0 169 k ≤ 1000000)
theorem A6 (hF : 100000 ≤ F) (T : TyP (M 177) (M 178) (tgM M) fe np n (M 170) (M 168) nv nc sz wt h) (D : MD M np n nv) (hnc : nc ≤ 30) (hsz : ∀ p, p < np → sz p = M 170 p + 2 + M 171 p) (hwt : ∀ p, p < np → wt p = w32 (2 + M 171 p + M 183 p + 3)) (X : CDt (put m 71 1 (cd : Int)) cd M fe np n nv mn sz wt) (hM : put (put m0 158 83 8) 158 84 38 = M) (hB : LyB m cd) (hB0 : MyB m0) : ∃ (S2 : lS) (Q2 : Nat → Int) (i6 p7 w4 sz2 : Int) (Tm : mSt) (Qm W : Nat → Int), TB2 S2 Q2 i6 p7 w4 sz2 ∧ Cx F (d + 16) 36 [71, (cd : Int)] (Hp L xs m) = some ([if 6000 < yEnd Tm Qm m0 M (M 182 mn.toNat) n nv.toNat 158 74 + yEnd Tm Qm m0 M (M 182 mn.toNat) n nv.toNat 158 75 then 0 else 1], Hp L xs (lyS S2 cd (qv cd Q2 i6 p7 (uv cd w4 sz2 (put m 71 1 (cd : Int)))))) ∧ Cx F (d2 + 30) 289 [158, mn] (Hp L xs m0) = some ([], Hp L xs (cv W (yEnd Tm Qm m0 M (M 182 mn.toNat) n nv.toNat))) ∧ b01 (eEnd m0 M (M 182 mn.toNat) n) ∧ (0 ≤ yEnd Tm Qm m0 M (M 182 mn.toNat) n nv.toNat 158 74 ∧ yEnd Tm Qm m0 M (M 182 mn.toNat) n nv.toNat 158 74 ≤ 100000) ∧ (0 ≤ yEnd Tm Qm m0 M (M 182 mn.toNat) n nv.toNat 158 75 ∧ yEnd Tm Qm m0 M (M 182 mn.toNat) n nv.toNat 158 75 ≤ 100000) ∧ m 57 8 = yEnd Tm Qm m0 M (M 182 mn.toNat) n nv.toNat 158 75 ∧ (¬ 6000 < yEnd Tm Qm m0 M (M 182 mn.toNat) n nv.toNat 158 74 + yEnd Tm Qm m0 M (M 182 mn.toNat) n nv.toNat 158 75 → sz2 = yEnd Tm Qm m0 M (M 182 mn.toNat) n nv.toNat 158 74 ∧ (∀ q, q < n → Q2 q = yEnd Tm Qm m0 M (M 182 mn.toNat) n nv.toNat 180 q) ∧ ∀ k : Nat, (k : Int) < sz2 → S2.2.2.2.2 k = W k) := by
  have K := CLM_mk T D hnc hsz hwt X
  have KM := K.2.1
  have hO := KM.1
  obtain ⟨d41, d25, d21, dnp, dn, dnv, d168, d179, dR, d36, d175, d83, d84⟩ := D
  obtain ⟨hc, ⟨x1, x0⟩, xo, ⟨x5, x7, x14, x4, x8⟩, xv, xp, xPA, xr, xc, xn, xf, xm, xmn⟩ := X
  obtain ⟨b1, b2, b3, b4⟩ := hB0
  have hv := vsm_b d168
  have x182 : ∀ p, p < np → M 182 p = (fe p : Int) := fun p hp => (xp p hp).2.2.2.2
  have he0 : 0 ≤ M 182 mn.toNat ∧ M 182 mn.toNat < (n : Int) := by
    have S := T.1
    have hfe := T.2.1
    have f3 := sg_mo S (p := mn.toNat + 1) np (by omega) (Nat.le_refl _)
    have f4 := (S.2 mn.toNat (by omega)).1
    rw [x182 _ (by omega)]
    omega
  generalize he : M 182 mn.toNat = e0 at *
  have hnt := fun E (_ : b01 E) => NtS (E := E) T hO x182 he0
  have env : ((nv.toNat : Nat) : Int) = nv := by omega
  obtain ⟨Tm, Qm, hb, hch, c289⟩ := M_289 (F := F) (L := L) (d := d2) (xs := xs) (main := mn) (v := nv.toNat) hF KM hM ⟨xmn.1, by omega⟩ he b1 b2 b3 (by rw [d21, env]) (by omega) (fun k hk => by have := hv k (by omega); omega) (fun k => by rw [← hM]; exact b4 k) (fun E hE i hi h4 => by
    rcases hnt E hE i hi h4 with w | w | w
    · exact Or.inl ⟨w.1, by omega⟩
    · exact Or.inr (Or.inl w)
    · exact Or.inr (Or.inr ⟨w.1, by omega⟩)) (fun E hE => by
    unfold itA
    rw [nno_app, hdI_g.2]
    have z := (mlI_n (c0 := 0) (m := fv E M) hO n (Nat.le_refl _)).2
    omega)
  obtain ⟨S2, Q2, i6, p7, w4, sz2, t1, t2, t3⟩ := C_36 (F := F) (L := L) (d := d) (xs := xs) (X := m0 198) hF K hB b1
  have eE : itr M e0 n 6001 (fz (m0 198) 36000) = eEnd m0 M e0 n := rfl
  rw [eE] at t2 t3
  have y74 : yEnd Tm Qm m0 M e0 n nv.toNat 158 74 = 82 + ((mlI (fv (eEnd m0 M e0 n) M) 0 n).length : Int) := by
    have z := (mI_n (itA M (eEnd m0 M e0 n) e0 n) (rs Tm)).1
    have z2 : (rs Tm).1 = 0 := rfl
    rw [z2, Int.zero_add] at z
    have hl : ((itA M (eEnd m0 M e0 n) e0 n).length : Int) = 82 + ((mlI (fv (eEnd m0 M e0 n) M) 0 n).length : Int) := by
      unfold itA
      rw [List.length_append, hdI_l]
      omega
    rw [← hl]
    exact z
  have y75 : yEnd Tm Qm m0 M e0 n nv.toNat 158 75 = vsm M nv.toNat := rfl
  have x8' : m 57 8 = vsm M nv.toNat := x8
  have hb8 := hv nv.toNat (by omega)
  have hsz2 := KM.2.2.2.2.2.1 (eEnd m0 M e0 n) hb n (Nat.le_refl _)
  refine ⟨S2, Q2, i6, p7, w4, sz2, Tm, Qm, _, t1, ?_, c289, hb, by rw [y74]; omega, by rw [y75]; omega, by rw [y75]; exact x8', fun hfit => ?_⟩
  · rw [t2, y74, y75, x8']
    by_cases c : 82 + ((mlI (fv (eEnd m0 M e0 n) M) 0 n).length : Int) + vsm M nv.toNat ≤ 6000
    · rw [if_pos c, if_neg (by omega)]
    · rw [if_neg c, if_pos (by omega)]
  · rw [y74, y75] at hfit
    obtain ⟨u1, u2, u3⟩ := t3 (by rw [x8']; omega)
    refine ⟨by rw [y74]; exact u1, fun q hq => ?_, ?_⟩
    · rw [u2 q hq]
      show _ = plq 82 (fv (eEnd m0 M e0 n) M) 0 Qm n q
      unfold plq
      rw [if_pos hq]
    · exact words_eq (T := Tm) (Q := Qm) (v := nv.toNat) hc KM hb u1 x0 u2 (by rw [x5, env]) x8 (fun k hk => (xv k (by omega)).2) (fun i hi h4 => by
        rcases hnt (eEnd m0 M e0 n) hb i hi h4 with w | w | w
        · exact Or.inl w
        · exact Or.inr (Or.inl w)
        · exact Or.inr (Or.inr ⟨w.1, by omega⟩)) u3
end Lad
