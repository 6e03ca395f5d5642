/-! FRAMES: the model's pile against the processor's memory -/
/-- where the pile begins -/
def Bq (M : Mem) : Int := M 158 68 + M 158 70
/-- where frame j begins in memory -/
def PBq (M : Mem) (fb : Nat → Int) (j : Nat) : Int := Bq M + fb j + 2 * (j : Int)
/-- where place k of the pile stands in memory, in frame j -/
def adr (M : Mem) (pf : Nat → Nat) (fb : Nat → Int) (j k : Nat) : Int := Bq M + (k : Int) + 2 * (j : Int) + (if (k : Int) - fb j < M 188 (pf j) then 0 else 2)
/-- the order that called frame j + 1 -/
def CIq (M : Mem) (fe : Nat → Nat) (h : Nat → Int) (pf : Nat → Nat) (fb fk : Nat → Int) (j : Nat) : Prop := ∃ k : Nat, fk (j + 1) = (k : Int) ∧ (fe (pf j) < k ∧ k + 1 < fe (pf j + 1)) ∧ M 184 k = 17 ∧ M 185 k = (pf (j + 1) : Int) ∧ fb (j + 1) = fb j + M 189 (pf j) - 2 + h k - M 188 (pf (j + 1)) ∧ M 188 (pf (j + 1)) ≤ h k
def FJq (M : Mem) (np : Nat) (pf : Nat → Nat) (fb fk Y : Nat → Int) (j : Nat) : Prop := pf j < np ∧ 0 ≤ fb j ∧ PBq M fb j + M 188 (pf j) + M 190 (pf j) ≤ 8192 ∧ Y (PBq M fb j + M 188 (pf j)).toNat = (if j = 0 then 7 else M 187 (fk j).toNat + 3) ∧ Y (PBq M fb j + M 188 (pf j) + 1).toNat = (if j = 0 then Bq M else PBq M fb (j - 1))
/-- how many locals of frame j are set -/
def vdq (u fk : Nat → Int) (f : Nat) (uv : Int) (j : Nat) : Int := if j + 1 < f then u (fk (j + 1)).toNat else uv
def upq (fb : Nat → Int) (f : Nat) (lim : Int) (j : Nat) : Int := if j + 1 < f then fb (j + 1) else lim
def FRM (M : Mem) (np : Nat) (fe : Nat → Nat) (h u : Nat → Int) (pf : Nat → Nat) (fb fk X Y : Nat → Int) (f : Nat) (lim uv : Int) : Prop := (∀ j, j < f → FJq M np pf fb fk Y j) ∧ (∀ j, j + 1 < f → CIq M fe h pf fb fk j) ∧ (∀ j, j < f → ∀ k : Nat, fb j ≤ (k : Int) → (k : Int) < upq fb f lim j → ((k : Int) - fb j < vdq u fk f uv j ∨ fb j + M 189 (pf j) - 2 ≤ (k : Int)) → Y (adr M pf fb j k).toNat = X k % 65536 ∧ -32768 ≤ X k ∧ X k ≤ 32767)
section Frm
variable {M : Mem} {np : Nat} {fe : Nat → Nat} {h u : Nat → Int} {pf : Nat → Nat} {fb fk X Y X' Y' : Nat → Int} {f : Nat} {lim lim' uv uv' : Int}
/-- frames grow -/
theorem fb_s (hB : 0 ≤ Bq M) (hS : ∀ p, p < np → 0 ≤ M 188 p ∧ M 188 p + 2 ≤ M 189 p) (R : FRM M np fe h u pf fb fk X Y f lim uv) {j : Nat} (hj : j + 1 < f) : fb j + M 188 (pf j) ≤ fb (j + 1) ∧ PBq M fb j + M 188 (pf j) + 2 ≤ PBq M fb (j + 1) := by
  obtain ⟨k, -, -, -, -, e, g⟩ := R.2.1 j hj
  have := hS (pf j) (R.1 j (by omega)).1
  have w : fb j + M 188 (pf j) ≤ fb (j + 1) := by omega
  refine ⟨w, ?_⟩
  unfold PBq
  omega
theorem fb_m (hB : 0 ≤ Bq M) (hS : ∀ p, p < np → 0 ≤ M 188 p ∧ M 188 p + 2 ≤ M 189 p) (R : FRM M np fe h u pf fb fk X Y f lim uv) : ∀ (d j : Nat), j + d < f → fb j ≤ fb (j + d) ∧ PBq M fb j ≤ PBq M fb (j + d)
  | 0, j, _ => ⟨Int.le_refl _, Int.le_refl _⟩
  | d + 1, j, hj => by
    obtain ⟨a, b⟩ := fb_m hB hS R d j (by omega)
    obtain ⟨a2, b2⟩ := fb_s hB hS R (j := j + d) hj
    have := hS (pf (j + d)) (R.1 (j + d) (by omega)).1
    rw [show j + (d + 1) = j + d + 1 from rfl]
    exact ⟨by omega, by omega⟩
theorem fb_l (hB : 0 ≤ Bq M) (hS : ∀ p, p < np → 0 ≤ M 188 p ∧ M 188 p + 2 ≤ M 189 p) (R : FRM M np fe h u pf fb fk X Y f lim uv) {j : Nat} (hj : j < f) : fb j ≤ fb (f - 1) ∧ PBq M fb j ≤ PBq M fb (f - 1) := by
  have z := fb_m hB hS R (f - 1 - j) j (by omega)
  rw [show j + (f - 1 - j) = f - 1 from by omega] at z
  exact z
/-- all that stands in a frame stands below its end -/
theorem adr_b {j k : Nat} (h0 : fb j ≤ (k : Int)) : PBq M fb j ≤ adr M pf fb j k ∧ adr M pf fb j k ≤ Bq M + (k : Int) + 2 * (j : Int) + 2 := by
  unfold PBq adr
  split <;> omega
/-- an end above which nothing stands -/
def enq (M : Mem) (fb : Nat → Int) (f : Nat) (lim : Int) (j : Nat) : Int := if j + 1 < f then PBq M fb (j + 1) else Bq M + lim + 2 * (f : Int)
theorem adr_e {j k : Nat} (hj : j < f) (h1 : (k : Int) < upq fb f lim j) : adr M pf fb j k < enq M fb f lim j := by
  unfold upq at h1
  unfold enq
  by_cases c : j + 1 < f
  · rw [if_pos c] at h1 ⊢
    unfold adr PBq
    split <;> omega
  · rw [if_neg c] at h1 ⊢
    unfold adr
    split <;> omega
theorem sav_e (hB : 0 ≤ Bq M) (hS : ∀ p, p < np → 0 ≤ M 188 p ∧ M 188 p + 2 ≤ M 189 p) (R : FRM M np fe h u pf fb fk X Y f lim uv) {j : Nat} (hj : j < f) (hl : fb (f - 1) + M 188 (pf (f - 1)) ≤ lim) : PBq M fb j + M 188 (pf j) + 1 < enq M fb f lim j := by
  unfold enq
  by_cases c : j + 1 < f
  · rw [if_pos c]
    have := (fb_s hB hS R c).2
    omega
  · rw [if_neg c]
    have e : j = f - 1 := by omega
    subst e
    unfold PBq
    omega
theorem enq_t (hB : 0 ≤ Bq M) (hS : ∀ p, p < np → 0 ≤ M 188 p ∧ M 188 p + 2 ≤ M 189 p) (R : FRM M np fe h u pf fb fk X Y f lim uv) {j : Nat} (hj : j < f) (hl : fb (f - 1) ≤ lim') : enq M fb f lim' j ≤ Bq M + lim' + 2 * (f : Int) := by
  unfold enq
  by_cases c : j + 1 < f
  · rw [if_pos c]
    have := (fb_l hB hS R c).2
    unfold PBq at *
    omega
  · rw [if_neg c]
    exact Int.le_refl _
/-- the pile loses some, what stands below stays -/
theorem FRM_up (hB : 0 ≤ Bq M) (hS : ∀ p, p < np → 0 ≤ M 188 p ∧ M 188 p + 2 ≤ M 189 p) (R : FRM M np fe h u pf fb fk X Y f lim uv) (hf : 1 ≤ f) (hl : lim' ≤ lim) (hp : fb (f - 1) + M 188 (pf (f - 1)) ≤ lim') (hu : uv' ≤ uv) (hX : ∀ k : Nat, (k : Int) < lim' → X' k = X k) (hY : ∀ a : Nat, Bq M ≤ (a : Int) → (a : Int) < Bq M + lim' + 2 * (f : Int) → Y' a = Y a) : FRM M np fe h u pf fb fk X' Y' f lim' uv' := by
  have h188 : 0 ≤ M 188 (pf (f - 1)) := (hS _ (R.1 (f - 1) (by omega)).1).1
  have hen : ∀ j, j < f → enq M fb f lim' j ≤ Bq M + lim' + 2 * (f : Int) := fun j hj => enq_t hB hS R hj (by omega)
  refine ⟨fun j hj => ?_, R.2.1, fun j hj k k0 k1 kv => ?_⟩
  · obtain ⟨a1, a2, a3, a4, a5⟩ := R.1 j hj
    have s : PBq M fb j + M 188 (pf j) + 1 < enq M fb f lim' j := by
      unfold enq
      by_cases c : j + 1 < f
      · rw [if_pos c]
        have := (fb_s hB hS R c).2
        omega
      · rw [if_neg c]
        have e : j = f - 1 := by omega
        subst e
        unfold PBq
        omega
    have := hen j hj
    have b1 := (hS (pf j) a1).1
    have b0 : Bq M ≤ PBq M fb j := by unfold PBq; omega
    exact ⟨a1, a2, a3, by rw [hY _ (by omega) (by omega)]; exact a4, by rw [hY _ (by omega) (by omega)]; exact a5⟩
  · have k2 : (k : Int) < upq fb f lim j := by
      unfold upq at k1 ⊢
      split at k1 <;> split <;> omega
    have k3 : (k : Int) < lim' := by
      unfold upq at k1
      by_cases c : j + 1 < f
      · rw [if_pos c] at k1
        have := (fb_l hB hS R c).1
        omega
      · rw [if_neg c] at k1
        exact k1
    have kv2 : (k : Int) - fb j < vdq u fk f uv j ∨ fb j + M 189 (pf j) - 2 ≤ (k : Int) := by
      unfold vdq at kv ⊢
      split at kv <;> split <;> omega
    obtain ⟨c1, c2, c3⟩ := R.2.2 j hj k k0 k2 kv2
    have e1 := adr_e (M := M) (pf := pf) hj k1
    have e2 := (adr_b (M := M) (pf := pf) k0).1
    have e3 := hen j hj
    have a2 := (R.1 j hj).2.1
    have b0 : Bq M ≤ PBq M fb j := by unfold PBq; omega
    rw [hY _ (by omega) (by omega), hX k k3]
    exact ⟨c1, c2, c3⟩
/-- the pile gains one -/
theorem FRM_push {v : Int} (hB : 0 ≤ Bq M) (hS : ∀ p, p < np → 0 ≤ M 188 p ∧ M 188 p + 2 ≤ M 189 p) (R : FRM M np fe h u pf fb fk X Y f lim uv) (hf : 1 ≤ f) (hp : fb (f - 1) + M 189 (pf (f - 1)) - 2 ≤ lim) (hX : ∀ k : Nat, (k : Int) < lim → X' k = X k) (hX2 : X' lim.toNat = v) (hv : -32768 ≤ v ∧ v ≤ 32767) (hY : ∀ a : Nat, Bq M ≤ (a : Int) → (a : Int) < Bq M + lim + 2 * (f : Int) → Y' a = Y a) (hY2 : Y' (Bq M + lim + 2 * (f : Int)).toNat = v % 65536) : FRM M np fe h u pf fb fk X' Y' f (lim + 1) uv := by
  have hSf := hS _ (R.1 (f - 1) (by omega)).1
  have U := FRM_up hB hS R hf (Int.le_refl lim) (by omega) (Int.le_refl uv) hX hY
  refine ⟨U.1, U.2.1, fun j hj k k0 k1 kv => ?_⟩
  by_cases c : j + 1 < f
  · exact U.2.2 j hj k k0 (by
      unfold upq at k1 ⊢
      rw [if_pos c] at k1 ⊢
      exact k1) kv
  · by_cases c2 : (k : Int) < lim
    · exact U.2.2 j hj k k0 (by
        unfold upq
        rw [if_neg c]
        exact c2) kv
    · unfold upq at k1
      rw [if_neg c] at k1
      have ek : (k : Int) = lim := by omega
      have ej : j = f - 1 := by omega
      subst ej
      have e : adr M pf fb (f - 1) k = Bq M + lim + 2 * (f : Int) := by
        unfold adr
        rw [if_neg (by omega), ek]
        omega
      have e2 : lim.toNat = k := by omega
      rw [e2] at hX2
      rw [e, hY2, hX2]
      exact ⟨rfl, hv⟩
/-- a place of the running frame is set -/
theorem FRM_loc {v : Int} {q : Nat} (hB : 0 ≤ Bq M) (hS : ∀ p, p < np → 0 ≤ M 188 p ∧ M 188 p + 2 ≤ M 189 p) (R : FRM M np fe h u pf fb fk X Y f lim uv) (hf : 1 ≤ f) (hp : fb (f - 1) + M 188 (pf (f - 1)) ≤ lim) (hq : fb (f - 1) ≤ (q : Int) ∧ (q : Int) < lim) (hv : -32768 ≤ v ∧ v ≤ 32767) (hu : uv' ≤ uv ∨ (uv' ≤ uv + 1 ∧ (q : Int) - fb (f - 1) = uv)) : FRM M np fe h u pf fb fk (vput X q v) (vput Y (adr M pf fb (f - 1) q).toNat (v % 65536)) f lim uv' := by
  obtain ⟨q1, q2⟩ := adr_b (M := M) (pf := pf) hq.1
  have a2 := (R.1 (f - 1) (by omega)).2.1
  have b0 : 0 ≤ PBq M fb (f - 1) := by unfold PBq; omega
  have hlow : ∀ j, j + 1 < f → enq M fb f lim j ≤ PBq M fb (f - 1) := fun j hj => by
    unfold enq
    rw [if_pos hj]
    exact (fb_l hB hS R hj).2
  refine ⟨fun j hj => ?_, R.2.1, fun j hj k k0 k1 kv => ?_⟩
  · obtain ⟨a1, a2, a3, a4, a5⟩ := R.1 j hj
    have b1 := (hS (pf j) a1).1
    have b0' : 0 ≤ PBq M fb j := by unfold PBq; omega
    have s := sav_e hB hS R hj hp
    have ne : (PBq M fb j + M 188 (pf j)) ≠ adr M pf fb (f - 1) q ∧ (PBq M fb j + M 188 (pf j) + 1) ≠ adr M pf fb (f - 1) q := by
      by_cases c : j + 1 < f
      · have := hlow j c
        omega
      · have ej : j = f - 1 := by omega
        subst ej
        unfold PBq adr
        split <;> omega
    refine ⟨a1, a2, a3, ?_, ?_⟩
    · show (if _ = _ then _ else Y _) = _
      rw [if_neg (by omega)]
      exact a4
    · show (if _ = _ then _ else Y _) = _
      rw [if_neg (by omega)]
      exact a5
  · have e1 := adr_e (M := M) (pf := pf) hj k1
    have e2 := (adr_b (M := M) (pf := pf) k0).1
    have a2' := (R.1 j hj).2.1
    have b0' : 0 ≤ PBq M fb j := by unfold PBq; omega
    by_cases c : j + 1 < f
    · obtain ⟨c1, c2, c3⟩ := R.2.2 j hj k k0 k1 (by
        unfold vdq at kv ⊢
        rw [if_pos c] at kv ⊢
        exact kv)
      have := hlow j c
      have kq : k ≠ q := by
        have w := (fb_l hB hS R c).1
        unfold upq at k1
        rw [if_pos c] at k1
        omega
      show (if (adr M pf fb j k).toNat = (adr M pf fb (f - 1) q).toNat then _ else Y _) = (if k = q then v else X k) % 65536 ∧ -32768 ≤ (if k = q then v else X k) ∧ (if k = q then v else X k) ≤ 32767
      rw [if_neg (by omega), if_neg kq]
      exact ⟨c1, c2, c3⟩
    · have ej : j = f - 1 := by omega
      subst ej
      show (if (adr M pf fb (f - 1) k).toNat = (adr M pf fb (f - 1) q).toNat then _ else Y _) = (if k = q then v else X k) % 65536 ∧ -32768 ≤ (if k = q then v else X k) ∧ (if k = q then v else X k) ≤ 32767
      by_cases kq : k = q
      · subst kq
        rw [if_pos rfl, if_pos rfl]
        exact ⟨rfl, hv⟩
      · obtain ⟨c1, c2, c3⟩ := R.2.2 (f - 1) hj k k0 k1 (by
          unfold vdq at kv ⊢
          rw [if_neg c] at kv ⊢
          omega)
        have ne : adr M pf fb (f - 1) k ≠ adr M pf fb (f - 1) q := by
          unfold adr
          split <;> split <;> omega
        rw [if_neg (by omega), if_neg kq]
        exact ⟨c1, c2, c3⟩
/-- what a place of the running frame shows -/
theorem FRM_get {q : Nat} (R : FRM M np fe h u pf fb fk X Y f lim uv) (hf : 1 ≤ f) (hq : fb (f - 1) ≤ (q : Int) ∧ (q : Int) < lim) (hu : (q : Int) - fb (f - 1) < uv ∨ fb (f - 1) + M 189 (pf (f - 1)) - 2 ≤ (q : Int)) : Y (adr M pf fb (f - 1) q).toNat = X q % 65536 ∧ -32768 ≤ X q ∧ X q ≤ 32767 := R.2.2 (f - 1) (by omega) q hq.1 (by
  unfold upq
  rw [if_neg (by omega)]
  exact hq.2) (by
  unfold vdq
  rw [if_neg (by omega)]
  exact hu)
/-- vars -/
def VRq (M : Mem) (Z Y : Nat → Int) : Prop := ∀ q : Nat, (q : Int) < M 158 70 → Y (M 158 68 + (q : Int)).toNat = Z q % 65536 ∧ -32768 ≤ Z q ∧ Z q ≤ 32767
theorem VR_up {Z : Nat → Int} (hN : 0 ≤ M 158 68) (R : VRq M Z Y) (hY : ∀ a : Nat, (a : Int) < Bq M → Y' a = Y a) : VRq M Z Y' := fun q hq => by
  rw [hY _ (by unfold Bq; omega)]
  exact R q hq
theorem VR_put {Z : Nat → Int} {v : Int} {g : Nat} (hN : 0 ≤ M 158 68) (R : VRq M Z Y) (hv : -32768 ≤ v ∧ v ≤ 32767) : VRq M (vput Z g v) (vput Y (M 158 68 + (g : Int)).toNat (v % 65536)) := fun q hq => by
  obtain ⟨c1, c2, c3⟩ := R q hq
  show (if (M 158 68 + (q : Int)).toNat = (M 158 68 + (g : Int)).toNat then _ else Y _) = (if q = g then v else Z q) % 65536 ∧ -32768 ≤ (if q = g then v else Z q) ∧ (if q = g then v else Z q) ≤ 32767
  by_cases e : q = g
  · subst e
    rw [if_pos rfl, if_pos rfl]
    exact ⟨rfl, hv⟩
  · rw [if_neg (by omega), if_neg e]
    exact ⟨c1, c2, c3⟩
end Frm
