/-! A GOOD TEXT: class and model may lay it alike -/
section Gud
variable {mc mr j' m' m5 : Mem} {e p' mn : Int} {cd : Nat} {t : xT} {V' : Nat → Int} {σ : Int → Int} {l : List Int} {ws : List Int}
theorem A5a {K V : Int → Int} (hP : PT K V t 0 e) (T5 : TCs m5 (sT (fun i => mr 163 i.toNat) t s6)) (S5 : TS j' (sT (fun i => mr 163 i.toNat) t s6)) (E : E7 (mI2 (m2M j' mr e)) m' (kT t)) : ∀ k, k < (rT t).length → m5 64 k = m' 170 k := fun k hk => by
  have n := sT_n (v := fun i => mr 163 i.toNat) (tsz t + 1) t (by omega) 0 s6 hP
  obtain ⟨-, -, -, -, -, -, t7, t8⟩ := T5
  obtain ⟨-, -, -, -, -, -, -, s8⟩ := S5
  have e6 : s6.2.2.2.1 = 0 := rfl
  have hl : k < (sT (fun i => mr 163 i.toNat) t s6).2.2.2.2.2.length := by omega
  have e1 : m' 170 k = j' 170 k := (E.1 k).trans rfl
  rw [t8 k hl, e1, s8 k hl]
theorem A5b (hc : cd = 83 ∨ cd = 93) {K V : Int → Int} {v : Int → Int} (hP : PT K V t 0 e) (he : e ≤ 1300) (TTn : TT cd v e (nd 40 0 xz xz) e (xTo cd t (cst cd m5)) l (rT t) ws m' σ 3001 True) : ∀ i, i < (xTo cd t (cst cd m5)).1.1.length → m' 179 i < 12000 := fun i hi => by
  have R := TTn.sr
  have lc := TTn.lc
  obtain ⟨o1, o2, o3⟩ := R.rx.ops trivial i hi
  have o3 : m' 179 i = σ ((xTo cd t (cst cd m5)).1.1.getD i (0, 0, 0)).2.2 := o3
  have hL : LkG (xTo cd t (cst cd m5)).1 := LkG_xTo (tsz t + 1) t (by omega) 0 (cst cd m5) hP (fun k hk => absurd hk (Nat.not_lt_zero _))
  have h1 := hL i hi
  have h2 := R.lk i hi
  rw [o3]
  generalize ((xTo cd t (cst cd m5)).1.1.getD i (0, 0, 0)).2.2 = x at *
  by_cases c : x = -1
  · rw [c, R.s1]
    decide
  · have := R.lb x (by omega) h2
    omega
/-- the raises of class and model -/
theorem A5c {v : Int → Int} (TTn : TT cd v e (nd 40 0 xz xz) e (xTo cd t (cst cd m5)) l (rT t) ws m' σ 3001 True) (hK : ∀ a k, a < 83 → a ≠ 68 → (xTo cd t (cst cd m5)).2.2.2 a k = m5 a k) (hv : v = fun i => mr 163 i.toNat) (C : XC0 m5 e) (hcv : CV m5 ws (rT t)) (h6 : m5 57 6 ≤ 30) (hR : ∀ l ∈ rT t, RsK m5 e l) : (∀ p, p < (rT t).length → (m5 66 p = m' 173 p ∧ m5 66 (p + 1) = m' 173 p + m' 174 p) ∧ (0 ≤ m' 173 p ∧ m' 173 p + m' 174 p ≤ m' 158 36) ∧ 0 ≤ m' 174 p ∧ m' 174 p ≤ 100) ∧ (∀ k : Nat, (k : Int) < m' 158 36 → nmI m5 (m5 65 k) = m' 175 k ∧ 0 ≤ m' 175 k ∧ m' 175 k ≤ 1600) ∧ m5 57 14 = m' 158 36 := by
  obtain ⟨r1, r2, r3, r4⟩ := TTn.rr
  obtain ⟨-, -, c3, c4, c5⟩ := hcv
  have S := TTn.se
  have vv := TTn.vv
  generalize (xTo cd t (cst cd m5)).2.2.2 = mx at *
  have kI_e : kI mx = kI m5 := by
    funext i
    unfold kI
    rw [hK 57 4 (by decide) (by decide), hK 59 _ (by decide) (by decide)]
  have nm_e : nmI mx = nmI m5 := by
    funext i
    unfold nmI
    rw [hK 57 4 (by decide) (by decide), hK 60 _ (by decide) (by decide)]
  have id_e : idT mx = idT m5 := by
    funext i
    unfold idT
    rw [hK 51 5 (by decide) (by decide), hK 55 _ (by decide) (by decide)]
  have kd_e : kd mx = kd m5 := by
    funext i
    unfold kd
    rw [hK 51 5 (by decide) (by decide), hK 53 _ (by decide) (by decide)]
  have tok : ∀ x, (0 ≤ x ∧ x < e) → kd m5 x = 2 → kI m5 (idT m5 x) = 3 → nmI m5 (idT m5 x) = inX m' (v x) ∧ 0 ≤ inX m' (v x) ∧ inX m' (v x) ≤ 1600 := fun x hx hk h3 => by
    have z := S.nm x hx.1 hx.2 (by rw [kd_e]; exact hk)
    rw [kI_e, nm_e, id_e, vv x] at z
    obtain ⟨z1, z2, z3, z4, z5⟩ := z
    have ht : 0 ≤ topK m' (v x) := Int.not_lt.mp (fun w => by have := z4.2 w; omega)
    have w := S.wx (v x) ht
    exact ⟨z2 ht, w.1, by omega⟩
  refine ⟨fun p hp => ?_, fun k hk => ?_, by rw [c3.1, r2]⟩
  · obtain ⟨a1, a2⟩ := r3 p hp
    have b1 := tk_len (rT t) p hp
    have b2 := tk_le (rT t) (p + 1)
    have few31 : ((rT t).getD p []).length ≤ 31 := by
      have hm : (rT t).getD p [] ∈ rT t := by
        rw [List.getD_eq_getElem?_getD, List.getElem?_eq_getElem hp]
        exact List.getElem_mem hp
      have R := hR _ hm
      have R2 : RsK mx e ((rT t).getD p []) := by
        unfold RsK
        rw [kI_e, id_e, kd_e]
        exact R
      refine few (mr := mr) S (fun i => by rw [vv i, hv]) R2 (fun x hx => ?_)
      obtain ⟨u1, u2, u3⟩ := R.1 x hx
      have n := (C.1 (idT m5 x)).2.2.1 u3
      rw [nm_e, id_e]
      exact ⟨by omega, by omega⟩
    rw [c4 p (by omega), c4 (p + 1) (by omega), a1, a2, r2, b1]
    refine ⟨⟨rfl, by omega⟩, ⟨by omega, by omega⟩, by omega, by omega⟩
  · rw [r2] at hk
    have hk2 : k < (rT t).flatten.length := by omega
    obtain ⟨l, hl, hx⟩ := fl_mem hk2
    obtain ⟨u1, u2, u3⟩ := (hR l hl).1 _ hx
    have z := tok _ u1 u2 u3
    rw [c5 k hk2, r4 k hk2]
    exact z
end Gud
