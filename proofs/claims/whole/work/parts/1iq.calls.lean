/-! CALLS AND RETURNS -/
section Cal
variable {F d L : Nat} {xs : Nat → Int32} {M m : Mem} {np n : Nat} {fe : Nat → Nat} {h u : Nat → Int} {nc : Int} {cs : Nat → List Int} {pf : Nat → Nat} {f p i : Nat} {c r0 r1 r2 r3 r5 r7 tk ou lim uv lim' uv' : Int} {Y Y' X X' fb fk sn : Nat → Int}
theorem vp_n {V : Nat → Int} {j k : Nat} {v : Int} (hk : k ≠ j) : vput V j v k = V k := by
  unfold vput
  rw [if_neg hk]
/-- a frame comes on the pile -/
theorem FRM_call {q : Nat} (hB : 0 ≤ Bq M) (hS : ∀ p, p < np → 0 ≤ M 188 p ∧ M 188 p + 2 ≤ M 189 p) (R : FRM M np fe h u pf fb fk X Y f lim (u i)) (hf : 1 ≤ f) (hq : q < np) (hl : lim = fb (f - 1) + M 189 (pf (f - 1)) - 2 + h i) (hp : M 188 q ≤ h i) (hi : fe (pf (f - 1)) < i ∧ i + 1 < fe (pf (f - 1) + 1)) (hO : M 184 i = 17) (hA : M 185 i = (q : Int)) (hw : Bq M + lim + 2 * (f : Int) + M 190 q ≤ 8192) (hY : ∀ a : Nat, Bq M ≤ (a : Int) → (a : Int) < Bq M + lim + 2 * (f : Int) → Y' a = Y a) (hY0 : Y' (Bq M + lim + 2 * (f : Int)).toNat = M 187 i + 3) (hY1 : Y' (Bq M + lim + 2 * (f : Int) + 1).toNat = PBq M fb (f - 1)) (hX : ∀ k : Nat, (k : Int) < lim → X' k = X k) (hl' : lim' = lim - M 188 q + M 189 q - 2) (hu : uv' ≤ M 188 q) : FRM M np fe h u (fun j => if j = f then q else pf j) (vput fb f (lim - M 188 q)) (vput fk f (i : Int)) X' Y' (f + 1) lim' uv' := by
  have hSf := hS _ (R.1 (f - 1) (by omega)).1
  have hSq := hS q hq
  have h2 := (R.1 (f - 1) (by omega)).2.1
  have hen : ∀ j, j < f → enq M fb f lim j ≤ Bq M + lim + 2 * (f : Int) := fun j hj => enq_t hB hS R hj (by omega)
  have pn : ∀ j, j < f → (fun j => if j = f then q else pf j) j = pf j := fun j hj => if_neg (by omega)
  have pe : (fun j => if j = f then q else pf j) f = q := if_pos rfl
  have bn : ∀ j, j < f → vput fb f (lim - M 188 q) j = fb j := fun j hj => vp_n (by omega)
  have be : vput fb f (lim - M 188 q) f = lim - M 188 q := vp_e
  have kn : ∀ j, j < f → vput fk f (i : Int) j = fk j := fun j hj => vp_n (by omega)
  have ke : vput fk f (i : Int) f = (i : Int) := vp_e
  have PBn : ∀ j, j < f → PBq M (vput fb f (lim - M 188 q)) j = PBq M fb j := fun j hj => by
    unfold PBq
    rw [bn j hj]
  generalize hpf : (fun j => if j = f then q else pf j) = pf' at *
  generalize hfb : vput fb f (lim - M 188 q) = fb' at *
  generalize hfk : vput fk f (i : Int) = fk' at *
  refine ⟨fun j hj => ?_, fun j hj => ?_, fun j hj k k0 k1 kv => ?_⟩
  · by_cases c1 : j < f
    · obtain ⟨a1, a2, a3, a4, a5⟩ := R.1 j c1
      have s := sav_e hB hS R c1 (by omega)
      have e := hen j c1
      have b1 := (hS (pf j) a1).1
      have b0 : Bq M ≤ PBq M fb j := by unfold PBq; omega
      unfold FJq
      rw [pn j c1, bn j c1, kn j c1, PBn j c1]
      refine ⟨a1, a2, a3, by rw [hY _ (by omega) (by omega)]; exact a4, ?_⟩
      rw [hY _ (by omega) (by omega), a5]
      by_cases z : j = 0
      · rw [if_pos z, if_pos z]
      · rw [if_neg z, if_neg z, PBn (j - 1) (by omega)]
    · have ej : j = f := by omega
      subst ej
      have eP : PBq M fb' j + M 188 q = Bq M + lim + 2 * (j : Int) := by
        unfold PBq
        rw [be]
        omega
      unfold FJq
      rw [pe, be, ke, eP, if_neg (by omega), if_neg (by omega), PBn (j - 1) (by omega), Int.toNat_natCast]
      exact ⟨hq, by omega, hw, hY0, hY1⟩
  · by_cases c1 : j + 1 < f
    · obtain ⟨k, k1, k2, k3, k4, k5, k6⟩ := R.2.1 j c1
      unfold CIq
      rw [pn j (by omega), pn (j + 1) c1, bn j (by omega), bn (j + 1) c1, kn (j + 1) c1]
      exact ⟨k, k1, k2, k3, k4, k5, k6⟩
    · have ej : j + 1 = f := by omega
      have ej2 : j = f - 1 := by omega
      unfold CIq
      rw [ej, pn j (by omega), pe, bn j (by omega), be, ke, ej2]
      exact ⟨i, rfl, hi, hO, hA, by omega, hp⟩
  · by_cases c1 : j < f
    · have hup : (k : Int) < upq fb f lim j := by
        unfold upq at k1 ⊢
        rw [if_pos (by omega)] at k1
        by_cases c2 : j + 1 < f
        · rw [if_pos c2]
          rw [bn (j + 1) c2] at k1
          exact k1
        · rw [if_neg c2]
          rw [show j + 1 = f from by omega, be] at k1
          omega
      have hvd : (k : Int) - fb j < vdq u fk f (u i) j ∨ fb j + M 189 (pf j) - 2 ≤ (k : Int) := by
        unfold vdq at kv ⊢
        rw [if_pos (by omega), bn j c1, pn j c1] at kv
        by_cases c2 : j + 1 < f
        · rw [if_pos c2]
          rw [kn (j + 1) c2] at kv
          exact kv
        · rw [if_neg c2]
          rw [show j + 1 = f from by omega, ke, Int.toNat_natCast] at kv
          exact kv
      rw [bn j c1] at k0
      obtain ⟨d1, d2, d3⟩ := R.2.2 j c1 k k0 hup hvd
      have e1 := adr_e (M := M) (pf := pf) c1 hup
      have e2 := (adr_b (M := M) (pf := pf) k0).1
      have e3 := hen j c1
      have a2 := (R.1 j c1).2.1
      have b0 : Bq M ≤ PBq M fb j := by unfold PBq; omega
      have ea : adr M pf' fb' j k = adr M pf fb j k := by
        unfold adr
        rw [bn j c1, pn j c1]
      have kl : (k : Int) < lim := by
        unfold upq at hup
        by_cases c2 : j + 1 < f
        · rw [if_pos c2] at hup
          have := (fb_l hB hS R c2).1
          omega
        · rw [if_neg c2] at hup
          exact hup
      rw [ea, hY _ (by omega) (by omega), hX k kl]
      exact ⟨d1, d2, d3⟩
    · have ej : j = f := by omega
      subst ej
      unfold upq at k1
      unfold vdq at kv
      rw [if_neg (by omega)] at k1 kv
      rw [be] at k0 kv
      rw [pe] at kv
      have kl : (k : Int) < lim := by omega
      have ea : adr M pf' fb' j k = adr M pf fb (j - 1) k := by
        unfold adr
        rw [be, pe, if_pos (by omega), if_neg (by omega)]
        omega
      have hup : (k : Int) < upq fb j lim (j - 1) := by
        unfold upq
        rw [if_neg (by omega)]
        exact kl
      obtain ⟨d1, d2, d3⟩ := R.2.2 (j - 1) (by omega) k (by omega) hup (Or.inr (by omega))
      have e1 := adr_e (M := M) (pf := pf) (j := j - 1) (by omega) hup
      have e2 := (adr_b (M := M) (pf := pf) (fb := fb) (j := j - 1) (k := k) (by omega)).1
      have e3 := hen (j - 1) (by omega)
      have b0 : Bq M ≤ PBq M fb (j - 1) := by unfold PBq; omega
      rw [ea, hY _ (by omega) (by omega), hX k kl]
      exact ⟨d1, d2, d3⟩
/-- a frame goes -/
theorem FRM_ret (R : FRM M np fe h u pf fb fk X Y f lim uv) (hf : 2 ≤ f) : FRM M np fe h u pf fb fk X Y (f - 1) (fb (f - 1)) (u (fk (f - 1)).toNat) := by
  refine ⟨fun j hj => R.1 j (by omega), fun j hj => R.2.1 j (by omega), fun j hj k k0 k1 kv => R.2.2 j (by omega) k k0 ?_ ?_⟩
  · unfold upq at k1 ⊢
    rw [if_pos (by omega)]
    by_cases c : j + 1 < f - 1
    · rw [if_pos c] at k1
      exact k1
    · rw [if_neg c] at k1
      rw [show j + 1 = f - 1 from by omega]
      exact k1
  · unfold vdq at kv ⊢
    rw [if_pos (by omega)]
    by_cases c : j + 1 < f - 1
    · rw [if_pos c] at kv
      exact kv
    · rw [if_neg c] at kv
      rw [show j + 1 = f - 1 from by omega]
      exact kv
/-- the order that called -/
theorem CLk (Q : PRQ M np n fe h u nc cs) {k q : Nat} (hq : q < np) (h1 : fe q < k ∧ k + 1 < fe (q + 1)) (ho : M 184 k = 17) : (h (k + 1) = h k + 1 - M 188 (M 185 k).toNat ∧ u (k + 1) ≤ u k ∧ k + 1 < n) ∧ (∃ j : Nat, M 186 k = (j : Int) ∧ (fe q < j ∧ j < fe (q + 1)) ∧ (M 184 j = 23 ∨ M 184 j = 26) ∧ (0 ≤ Pq M (M 186 k) ∧ Pq M (M 186 k) < 65536) ∧ Pq M (M 186 k) = M 187 j ∧ u j ≤ u k) ∧ ∃ f0 f1, (0 ≤ M 187 k) ∧ WdOk (Pq M) (Nq M) (M 193) (it_17 f0 f1 (M 186 k) (M 185 k) (yq M q k) (M 190 (M 185 k).toNat) (M 189 (M 185 k).toNat)) (M 187 k) ∧ cX (Pq M) (it_17 f0 f1 (M 186 k) (M 185 k) (yq M q k) (M 190 (M 185 k).toNat) (M 189 (M 185 k).toNat)) (M 187 k) = false ∧ M 187 k + ((it_17 f0 f1 (M 186 k) (M 185 k) (yq M q k) (M 190 (M 185 k).toNat) (M 189 (M 185 k).toNat)).length : Int) = M 187 (k + 1) ∧ M 187 (k + 1) ≤ (((M 158 68).toNat : Nat) : Int) := by
  obtain ⟨ml, mx, -, -, -, -, ⟨-, -, -, T⟩, ⟨g1, g2⟩, -, -⟩ := PR_s Q hq
  obtain ⟨z1, z2, z3, z4⟩ := (Q.2.2.2.2.2.2.2.2.2.2.2 q hq).2 k h1.1 (by omega)
  obtain ⟨-, -, C, -, P1, ⟨P2, P3, P4⟩, ⟨-, N1, -⟩, -⟩ := Q
  obtain ⟨a0, a1, w1, w2, w3⟩ := C q hq k (by omega) (by omega)
  unfold itq at w1 w2 w3
  rw [ho] at w1 w2 w3 z3 z4
  rw [itO_17] at w1 w2 w3
  have e1 : plE M n k = M 187 (k + 1) := by
    unfold plE
    rw [if_pos (by omega)]
  rw [e1] at w3
  rw [if_neg (fun w => absurd w.1 (by decide))] at z3
  have t := T k h1.1 (by omega)
  have t2 := t.2.1
  have t3 := t.2.2.2.1
  rw [ho] at t2 t3
  have t2 : h (k + 1) = h k + 1 - M 188 (M 185 k).toNat := t2
  obtain ⟨⟨s1, s2⟩, s3⟩ := t3 (by decide)
  have p1 := P1 k (by omega)
  have p2 := P1 (k + 1) (by omega)
  have p3 := P1 (M 186 k).toNat (by omega)
  unfold Bq at P4
  exact ⟨⟨t2, z3, by omega⟩, ⟨(M 186 k).toNat, by omega, by omega, s3, by unfold Pq; omega, rfl, z4 (by decide)⟩, a0, a1, by omega, w1, w2, w3, by omega⟩
theorem Q_17q {W : Nat → Int} {ni : Int} {ip : Nat → Int} {A E x y y2 y3 lk r4 r6 : Int} {P N : Int → Int} {f0 f1 : Bool} {nn : Nat} (hn : nn ≤ 8192) (hA : 0 ≤ A) (h : WdOk P N W (it_17 f0 f1 lk x y y2 y3) A) (hE : A + ((it_17 f0 f1 lk x y y2 y3).length : Int) = E) (hEn : E ≤ nn) {g : Int} (hN : N y = g) (hg : 0 ≤ g ∧ g < 65536) : RnC 4 nn W ni ip (A, R8 r0 r1 r2 r3 r4 r5 r6 r7, Y, tk, ou, sn) (g, R8 r0 r1 r2 r3 r4 (A + 2 + 1) r6 r7, Y, tk, ou, sn) := by
  unfold it_17 at h hE
  simp only [List.append_assoc, WdOk_app, List.length_append, Int.natCast_add, l_off, l_on, l_pl, l_iL, l_nt, l_go, l_co] at h hE
  obtain ⟨w0, w1, w2, w3, w4⟩ := h
  have hgf0 := gsz_q (f := f0)
  exact RnC_tr (a := 2) (b := 2) (T := (A + 2, R8 r0 r1 r2 r3 r4 g r6 r7, Y, tk, ou, sn)) (X_nt (d := 5) (v := g) hn ⟨by omega, by omega, by omega⟩ (by decide) w0 hN (by omega) v8_5) (J_call (d := 5) (a := 5) hn ⟨by omega, by omega⟩ (by decide) (wl w1) rfl v8_5)
end Cal
