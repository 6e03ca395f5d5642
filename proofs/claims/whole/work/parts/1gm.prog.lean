/-! THE PROGRAM AS THE CLASS HAS MADE IT -/
section Prg
variable {mc mr j' m' m5 : Mem} {e : Int} {cd : Nat} {t : xT} {V' : Nat → Int} {σ : Int → Int}
theorem XC0_m {m m2 : Mem} (h : ∀ a k, a < 83 → a ≠ 68 → m2 a k = m a k) (C : XC0 m e) : XC0 m2 e := by
  have k1 : kI m2 = kI m := by
    funext i
    unfold kI
    rw [h 57 4 (by decide) (by decide), h 59 _ (by decide) (by decide)]
  have k2 : nmI m2 = nmI m := by
    funext i
    unfold nmI
    rw [h 57 4 (by decide) (by decide), h 60 _ (by decide) (by decide)]
  have k3 : idT m2 = idT m := by
    funext i
    unfold idT
    rw [h 51 5 (by decide) (by decide), h 55 _ (by decide) (by decide)]
  have k4 : kd m2 = kd m := by
    funext i
    unfold kd
    rw [h 51 5 (by decide) (by decide), h 53 _ (by decide) (by decide)]
  unfold XC0 at C ⊢
  rw [k1, k2, k3, k4, h 57 5 (by decide) (by decide), h 57 6 (by decide) (by decide), h 57 7 (by decide) (by decide), h 51 5 (by decide) (by decide)]
  refine ⟨fun id => ?_, C.2.1, C.2.2.1, fun i h0 h1 => ?_⟩
  · rw [h 63 _ (by decide) (by decide)]
    exact C.1 id
  · rw [h 54 _ (by decide) (by decide)]
    exact C.2.2.2 i h0 h1
theorem m85_o {a k : Nat} (h : a ≠ 68) : m85 cd m5 a k = m5 a k := by
  unfold m85
  rw [put_ss, if_neg h, put_ss, if_neg h, put_ss, if_neg h]
theorem A2 (hc : cd = 83 ∨ cd = 93) (C : XC0 m5 e) (he : 0 ≤ e ∧ e ≤ 1300) (hkd : kd m5 = kd mc) (hP : PT (kd mc) (VF V') t 0 e) (h61 : ∀ k : Nat, (k : Int) < m5 57 4 → m5 61 k = -1) (TTn : TT cd (fun i => mr 163 i.toNat) e (nd 40 0 xz xz) e (xTo cd t (cst cd m5)) (fiveC ++ cT (fun i => mr 163 i.toNat) t) (rT t) (vwT (fun i => mr 163 i.toNat) t) m' σ 3001 True) (nf : NF (xTo cd t (cst cd m5)).1) : m' 158 25 = ((rT t).length : Int) ∧ ∃ fe, PG (m85 cd m5) cd (xTo cd t (cst cd m5)) fe (rT t).length := by
  have C2 : XC0 (m85 cd m5) e := XC0_m (fun a k _ h2 => m85_o h2) C
  have k85 : kd (m85 cd m5) = kd mc := by
    rw [← hkd]
    funext i
    unfold kd
    rw [m85_o (by decide), m85_o (by decide)]
  have hl : (rT t).length = (rT t).length := rfl
  have rr := TTn.rr.1
  obtain ⟨fe, np, G⟩ := TyTo (m0 := m85 cd m5) (V := VF V') hc C2 (tsz t + 1) t (by omega) 0 (cst cd m5) (fun _ => 0) 0 (by show PT (kd (m85 cd m5)) (VF V') t 0 e; rw [k85]; exact hP) (Int.le_refl 0) Kp_rf ⟨rfl, rfl, rfl, by decide, fun p h => absurd h (Nat.not_lt_zero _)⟩ (fun k hk => by
    show m5 61 k = -1
    rw [m85_o (by decide)] at hk
    exact h61 k hk) (by show ((0 : Nat) : Int) + (e - 0) ≤ 2980; omega) (by show ((0 : Nat) : Int) + 2 * (e - 0) < 2980; omega) (by omega) nf
  have pr : (xTo cd t (cst cd m5)).2.2.2 68 4 = gms (xTo cd t (cst cd m5)).1 (xTo cd t (cst cd m5)).2.1 m' 158 33 := TTn.sr.pr
  have e33 : gms (xTo cd t (cst cd m5)).1 (xTo cd t (cst cd m5)).2.1 m' 158 33 = m' 158 25 := rfl
  rw [e33, G.1, ← rr] at pr
  have en : np = (rT t).length := by omega
  subst en
  exact ⟨rr.symm, fe, G⟩
/-- cells of the class behind make -/
theorem c6_o (hc : cd = 83 ∨ cd = 93) (k85 : Kp (m85 cd m5) (r85 cd t m5).2.2.2) {a k : Nat} (h1 : a < 83) (h2 : a ≠ 61 ∧ a ≠ 68 ∧ a ≠ 69 ∧ a ≠ 70) : c6M cd t e m5 a k = m5 a k := by
  have z := k85.1 a k h1 h2.2.1
  rw [m85_o h2.2.1] at z
  rw [← z]
  unfold c6M mv sww e85
  rw [if_neg h2.2.1, if_neg (by omega), if_neg (by omega), if_neg (by omega), if_neg (by omega), if_neg h2.2.1, if_neg h2.1, if_neg h2.2.2.1, if_neg h2.2.2.2, put_ss, if_neg (by omega), put_ss, if_neg (by omega), put_ss, if_neg (by omega)]
theorem c6_c (hc : cd = 83 ∨ cd = 93) {a k : Nat} (h1 : cd + 4 ≤ a) : c6M cd t e m5 a k = (r85 cd t m5).2.2.2 a k := by
  unfold c6M mv sww e85
  rw [if_neg (by omega), if_neg (by omega), if_neg (by omega), if_neg (by omega), if_neg (by omega), if_neg (by omega), if_neg (by omega), if_neg (by omega), if_neg (by omega), put_ss, if_neg (by omega), put_ss, if_neg (by omega), put_ss, if_neg (by omega)]
theorem c6_0 (hc : cd = 83 ∨ cd = 93) : c6M cd t e m5 cd 0 = ((r85 cd t m5).1.1.length : Int) := by
  unfold c6M mv
  rw [if_neg (by omega), if_pos rfl, if_pos rfl, List.length_map]
theorem c6_n (hc : cd = 83 ∨ cd = 93) {k : Nat} (hk : k < (r85 cd t m5).1.1.length) : c6M cd t e m5 (cd + 1) k = ((r85 cd t m5).1.1.getD k (0, 0, 0)).1 ∧ c6M cd t e m5 (cd + 2) k = ((r85 cd t m5).1.1.getD k (0, 0, 0)).2.1 ∧ c6M cd t e m5 (cd + 3) k = lbl (r85 cd t m5).2.1.1 ((r85 cd t m5).1.1.getD k (0, 0, 0)).2.2 := by
  have hm : ((r85 cd t m5).1.1.map (lnk (r85 cd t m5).2.1.1)).getD k (0, 0, 0) = lnk (r85 cd t m5).2.1.1 ((r85 cd t m5).1.1.getD k (0, 0, 0)) := by
    rw [List.getD_eq_getElem?_getD, List.getElem?_map, List.getD_eq_getElem?_getD, List.getElem?_eq_getElem hk]
    rfl
  have hl : k < ((r85 cd t m5).1.1.map (lnk (r85 cd t m5).2.1.1)).length := by rw [List.length_map]; exact hk
  refine ⟨?_, ?_, ?_⟩
  · unfold c6M mv
    rw [if_neg (by omega), if_neg (by omega), if_pos rfl]
    show (if k < ((r85 cd t m5).1.1.map (lnk (r85 cd t m5).2.1.1)).length then (((r85 cd t m5).1.1.map (lnk (r85 cd t m5).2.1.1)).getD k (0, 0, 0)).1 else _) = _
    rw [if_pos hl, hm]
    rfl
  · unfold c6M mv
    rw [if_neg (by omega), if_neg (by omega), if_neg (by omega), if_pos rfl]
    show (if k < ((r85 cd t m5).1.1.map (lnk (r85 cd t m5).2.1.1)).length then (((r85 cd t m5).1.1.map (lnk (r85 cd t m5).2.1.1)).getD k (0, 0, 0)).2.1 else _) = _
    rw [if_pos hl, hm]
    rfl
  · unfold c6M mv
    rw [if_neg (by omega), if_neg (by omega), if_neg (by omega), if_neg (by omega), if_pos rfl]
    show (if k < ((r85 cd t m5).1.1.map (lnk (r85 cd t m5).2.1.1)).length then (((r85 cd t m5).1.1.map (lnk (r85 cd t m5).2.1.1)).getD k (0, 0, 0)).2.2 else _) = _
    rw [if_pos hl, hm]
    rfl
end Prg
