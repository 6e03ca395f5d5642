/-! CLASS AND MODEL: the orders are the same -/
theorem Or_eq {mc m : Mem} {s : xSt} {y : yS} {σ : Int → Int} {D H p : Int} {G : Prop} (g : G) (R : SR mc s y m σ D G H p) (hL : LkG s) (hS : ∀ k, k < y.1.length → y.1.getD k 0 ≠ -1) : ∀ k, k < s.1.length → m 177 k = (s.1.getD k (0, 0, 0)).1 ∧ m 178 k = (s.1.getD k (0, 0, 0)).2.1 ∧ (if m 179 k < 0 then -1 else m 181 (m 179 k).toNat) = lbl y.1 (s.1.getD k (0, 0, 0)).2.2 := by
  intro k hk
  obtain ⟨o1, o2, o3⟩ := R.rx.ops g k hk
  refine ⟨o1, o2, ?_⟩
  have h1 := hL k hk
  have h2 := R.lk k hk
  rw [o3]
  generalize (s.1.getD k (0, 0, 0)).2.2 = l at *
  unfold lbl
  by_cases hl : l = -1
  · subst hl
    rw [R.s1, if_pos (by decide), if_pos (Or.inl (by decide))]
  · have hb := R.lb l (by omega) h2
    have e1 : ((l.toNat : Nat) : Int) = l := by omega
    have ls := R.ls l.toNat (by omega) (hS _ (by omega))
    rw [e1] at ls
    rw [if_neg (by omega), if_neg (by omega), ls]
/-- behind the second walk: the class's orders, its labels put in, are the model's -/
theorem Or_fin {cd : Nat} (hc : cd = 83 ∨ cd = 93) {v V : Int → Int} {e D : Int} {t : xT} {c : wS} {l : List Int} {rl : xLL} {ws : List Int} {m : Mem} {σ : Int → Int} (h : PT (kd c.2.2.2) V t 0 e) (he : 0 ≤ e) (he2 : e < 1400) (c1 : c.1.1 = []) (y1 : c.2.1.1 = []) (T : TT cd v e (nd 40 0 xz xz) e (xTo cd t c) l rl ws m σ D True) : m 158 41 = ((xTo cd t c).1.1.length : Int) ∧ ∀ k, k < (xTo cd t c).1.1.length → m 177 k = ((xTo cd t c).1.1.getD k (0, 0, 0)).1 ∧ m 178 k = ((xTo cd t c).1.1.getD k (0, 0, 0)).2.1 ∧ (if m 179 k < 0 then -1 else m 181 (m 179 k).toNat) = lbl (xTo cd t c).2.1.1 ((xTo cd t c).1.1.getD k (0, 0, 0)).2.2 := by
  have hlen : (c.2.1.1.length : Int) = 0 := by rw [y1]; rfl
  have St := St_xTo (V := V) hc (tsz t + 1) t (by omega) 0 c h (by omega)
  have hL : LkG (xTo cd t c).1 := LkG_xTo (tsz t + 1) t (by omega) 0 c h (fun k hk => absurd hk (by rw [c1]; exact Nat.not_lt_zero _))
  have hS : ∀ k, k < (xTo cd t c).2.1.1.length → (xTo cd t c).2.1.1.getD k 0 ≠ -1 := fun k hk => St.2.2.1 k (by omega) hk (fun z => z)
  have key := Or_eq (m := gms (xTo cd t c).1 (xTo cd t c).2.1 m) trivial T.sr hL hS
  exact ⟨T.sr.rx.len.symm, key⟩
