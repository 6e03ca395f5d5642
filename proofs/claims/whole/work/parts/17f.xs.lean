/-! THE MAKER over statements: what it makes of a tree (H the handler's label, l and k labels that some trees need) -/
abbrev zS : Type := xSt × yS
/-- the whens of a try: their orders, their names' faults (w the names ahead) -/
def dupB (m : Mem) (i : Int) : List Int → xSt → xSt
  | [], s => s
  | j :: r, s => dupB m i r (if idT m j = idT m i then bl m i s else s)
def wW (m : Mem) : xT → List Int → zS → zS
  | .tag k (.nest i (.append _ b)) => fun w c => match k with
    | 31 => wW m b (w ++ [i + 1]) (dupB m (i + 1) w (em 24 (nmI m (idT m (i + 1))) (nln c.2) (us m (i + 1) 3 c.1)), nlb c.2)
    | _ => c
  | _ => fun _ c => c
def stS (m : Mem) : xT → Int → Int → Int → zS → zS
  | .tag k (.nest i (.append a b)) => fun H l n c => match k with
    | 20 => ((stS m a H 0 0 c).1, fgN m ((stS m a H 0 0 c).2.2.1 - c.2.2.1).toNat (stS m a H 0 0 c).2)
    | 21 => stS m b H 0 0 (stS m a H 0 0 c)
    | 23 => (tlS m (i + 1) c.2 (em 3 c.2.2.1 (-1) (xE (sww H c.2 m) a c.1)), ymk m (i + 1) c.2)
    | 24 => (em 18 0 (-1) (em 17 (nmI m (idT m i)) H (cl m i (nA a) (xE (sww H c.2 m) a (us m i 4 c.1)))), c.2)
    | 25 => (if lI (sww H c.2 m) (idT m i) = -1 then em 5 (nmI m (idT m i)) (-1) (us m i 1 (xE (sww H c.2 m) a c.1)) else em 3 (lI (sww H c.2 m) (idT m i)) (-1) (xE (sww H c.2 m) a c.1), c.2)
    | 26 => (em 7 (nmI m (idT m i)) H (xE (sww H c.2 m) b (xE (sww H c.2 m) a (us m i 2 c.1))), c.2)
    | 27 => ((stS m b H 0 0 (em 16 0 (nln c.2) (xE (sww H (nlb c.2) m) a c.1), nlb c.2)).1, slb (nln c.2) ((stS m b H 0 0 (em 16 0 (nln c.2) (xE (sww H (nlb c.2) m) a c.1), nlb c.2)).1.1.length : Int) (stS m b H 0 0 (em 16 0 (nln c.2) (xE (sww H (nlb c.2) m) a c.1), nlb c.2)).2)
    | 28 => stS m b H (nln c.2) 0 (em 16 0 (nln c.2) (xE (sww H (nlb c.2) m) a c.1), nlb c.2)
    | 29 => (em 15 0 (nln c.2) (stS m b H 0 0 (em 16 0 (nln (nlb c.2)) (xE (sww H (slb (nln c.2) (c.1.1.length : Int) (nlb (nlb c.2))) m) a c.1), slb (nln c.2) (c.1.1.length : Int) (nlb (nlb c.2)))).1, slb (nln (nlb c.2)) ((em 15 0 (nln c.2) (stS m b H 0 0 (em 16 0 (nln (nlb c.2)) (xE (sww H (slb (nln c.2) (c.1.1.length : Int) (nlb (nlb c.2))) m) a c.1), slb (nln c.2) (c.1.1.length : Int) (nlb (nlb c.2)))).1).1.length : Int) (stS m b H 0 0 (em 16 0 (nln (nlb c.2)) (xE (sww H (slb (nln c.2) (c.1.1.length : Int) (nlb (nlb c.2))) m) a c.1), slb (nln c.2) (c.1.1.length : Int) (nlb (nlb c.2)))).2)
    | 30 => (fun c1 => (fun s3 y3 => (fun c4 => (fun c6 => (c6.1, slb (nln c.2) (c6.1.1.length : Int) c6.2)) (stS m b H (nln c.2) (y3.1.length : Int) (em 25 0 H c4.1, c4.2))) (wW m b [] (em 23 (m 68 4) (-1) s3, y3))) (em 15 0 (nln c.2) c1.1) (slb (nln (nlb c.2)) ((em 15 0 (nln c.2) c1.1).1.length : Int) c1.2)) (stS m a (nln (nlb c.2)) 0 0 (c.1, nlb (nlb c.2)))
    | 31 => stS m b H l (w32 (n + 1)) (em 15 0 l (stS m a H 0 0 (c.1, slb n (c.1.1.length : Int) c.2)).1, (stS m a H 0 0 (c.1, slb n (c.1.1.length : Int) c.2)).2)
    | 33 => (em 21 (nmI m (idT m (i + 1))) H (us m (i + 1) 3 c.1), c.2)
    | 34 => (em 22 (m 68 4) (-1) (xE (sww H c.2 m) a c.1), c.2)
    | 35 => (em 20 0 (-1) (xE (sww H c.2 m) a c.1), c.2)
    | 36 => (fun c1 => (fun s2 y2 => (fun c4 => (c4.1, slb (nln c1.2) (c4.1.1.length : Int) c4.2)) (stS m b H 0 0 (s2, slb l (s2.1.length : Int) y2))) (em 15 0 (nln c1.2) c1.1) (nlb c1.2)) (stS m a H 0 0 c)
    | _ => c
  | _ => fun _ _ _ c => c
def YI (y : yS) : Prop := 0 ≤ y.2.1 ∧ y.2.1 ≤ 1510 ∧ y.1.length ≤ 3000
theorem YI_nlb {y : yS} (h : YI y) : YI (nlb y) := by
  unfold nlb
  split
  · exact ⟨h.1, h.2.1, by show (y.1 ++ [-1]).length ≤ 3000; rw [List.length_append]; show y.1.length + 1 ≤ 3000; omega⟩
  · exact h
theorem nlb_n {y : yS} : (nlb y).2 = y.2 := by unfold nlb; split <;> rfl
theorem YI_slb {y : yS} {l n : Int} (h : YI y) : YI (slb l n y) := by
  unfold slb
  split
  · exact ⟨h.1, h.2.1, by show (y.1.set l.toNat n).length ≤ 3000; rw [List.length_set]; exact h.2.2⟩
  · exact h
theorem slb_n {y : yS} {l n : Int} : (slb l n y).2 = y.2 := by unfold slb; split <;> rfl
theorem YI_ymk {m : Mem} {i : Int} {y : yS} (h : YI y) : YI (ymk m i y) ∧ y.2.1 ≤ (ymk m i y).2.1 := by
  unfold ymk
  split
  · exact ⟨h, Int.le_refl _⟩
  · exact ⟨⟨by show 0 ≤ y.2.1 + 1; have := h.1; omega, by show y.2.1 + 1 ≤ 1510; omega, h.2.2⟩, by show y.2.1 ≤ y.2.1 + 1; omega⟩
theorem fgN_n {m : Mem} : ∀ (k : Nat) (y : yS), (fgN m k y).1 = y.1 ∧ (fgN m k y).2.1 = y.2.1 - k
  | 0, y => ⟨rfl, by show y.2.1 = y.2.1 - 0; omega⟩
  | k + 1, y => by
    obtain ⟨g1, g2⟩ := fgN_n (m := m) k (y.1, y.2.1 - 1, (if 0 ≤ y.2.2.2.1 (y.2.1 - 1).toNat ∧ y.2.2.2.1 (y.2.1 - 1).toNat < m 57 4 then vput y.2.2.1 (y.2.2.2.1 (y.2.1 - 1).toNat).toNat (-1) else y.2.2.1), y.2.2.2.1, y.2.2.2.2)
    refine ⟨g1, ?_⟩
    show (fgN m k _).2.1 = _
    rw [g2]
    show y.2.1 - 1 - (k : Int) = y.2.1 - ((k + 1 : Nat) : Int)
    omega
section XS
variable {m : Mem} {i H l n : Int} {a b : xT} {c : zS}
theorem y_20 : stS m (nd 20 i a b) H l n c = (((stS m a H 0 0 c).1, fgN m ((stS m a H 0 0 c).2.2.1 - c.2.2.1).toNat (stS m a H 0 0 c).2)) := (rfl)
theorem y_21 : stS m (nd 21 i a b) H l n c = (stS m b H 0 0 (stS m a H 0 0 c)) := (rfl)
theorem y_23 : stS m (nd 23 i a b) H l n c = ((tlS m (i + 1) c.2 (em 3 c.2.2.1 (-1) (xE (sww H c.2 m) a c.1)), ymk m (i + 1) c.2)) := (rfl)
theorem y_24 : stS m (nd 24 i a b) H l n c = ((em 18 0 (-1) (em 17 (nmI m (idT m i)) H (cl m i (nA a) (xE (sww H c.2 m) a (us m i 4 c.1)))), c.2)) := (rfl)
theorem y_25 : stS m (nd 25 i a b) H l n c = ((if lI (sww H c.2 m) (idT m i) = -1 then em 5 (nmI m (idT m i)) (-1) (us m i 1 (xE (sww H c.2 m) a c.1)) else em 3 (lI (sww H c.2 m) (idT m i)) (-1) (xE (sww H c.2 m) a c.1), c.2)) := (rfl)
theorem y_26 : stS m (nd 26 i a b) H l n c = ((em 7 (nmI m (idT m i)) H (xE (sww H c.2 m) b (xE (sww H c.2 m) a (us m i 2 c.1))), c.2)) := (rfl)
theorem y_27 : stS m (nd 27 i a b) H l n c = (((stS m b H 0 0 (em 16 0 (nln c.2) (xE (sww H (nlb c.2) m) a c.1), nlb c.2)).1, slb (nln c.2) ((stS m b H 0 0 (em 16 0 (nln c.2) (xE (sww H (nlb c.2) m) a c.1), nlb c.2)).1.1.length : Int) (stS m b H 0 0 (em 16 0 (nln c.2) (xE (sww H (nlb c.2) m) a c.1), nlb c.2)).2)) := (rfl)
theorem y_28 : stS m (nd 28 i a b) H l n c = (stS m b H (nln c.2) 0 (em 16 0 (nln c.2) (xE (sww H (nlb c.2) m) a c.1), nlb c.2)) := (rfl)
theorem y_29 : stS m (nd 29 i a b) H l n c = ((em 15 0 (nln c.2) (stS m b H 0 0 (em 16 0 (nln (nlb c.2)) (xE (sww H (slb (nln c.2) (c.1.1.length : Int) (nlb (nlb c.2))) m) a c.1), slb (nln c.2) (c.1.1.length : Int) (nlb (nlb c.2)))).1, slb (nln (nlb c.2)) ((em 15 0 (nln c.2) (stS m b H 0 0 (em 16 0 (nln (nlb c.2)) (xE (sww H (slb (nln c.2) (c.1.1.length : Int) (nlb (nlb c.2))) m) a c.1), slb (nln c.2) (c.1.1.length : Int) (nlb (nlb c.2)))).1).1.length : Int) (stS m b H 0 0 (em 16 0 (nln (nlb c.2)) (xE (sww H (slb (nln c.2) (c.1.1.length : Int) (nlb (nlb c.2))) m) a c.1), slb (nln c.2) (c.1.1.length : Int) (nlb (nlb c.2)))).2)) := (rfl)
theorem y_30 : stS m (nd 30 i a b) H l n c = ((fun c1 => (fun s3 y3 => (fun c4 => (fun c6 => (c6.1, slb (nln c.2) (c6.1.1.length : Int) c6.2)) (stS m b H (nln c.2) (y3.1.length : Int) (em 25 0 H c4.1, c4.2))) (wW m b [] (em 23 (m 68 4) (-1) s3, y3))) (em 15 0 (nln c.2) c1.1) (slb (nln (nlb c.2)) ((em 15 0 (nln c.2) c1.1).1.length : Int) c1.2)) (stS m a (nln (nlb c.2)) 0 0 (c.1, nlb (nlb c.2)))) := (rfl)
theorem y_31 : stS m (nd 31 i a b) H l n c = (stS m b H l (w32 (n + 1)) (em 15 0 l (stS m a H 0 0 (c.1, slb n (c.1.1.length : Int) c.2)).1, (stS m a H 0 0 (c.1, slb n (c.1.1.length : Int) c.2)).2)) := (rfl)
theorem y_33 : stS m (nd 33 i a b) H l n c = ((em 21 (nmI m (idT m (i + 1))) H (us m (i + 1) 3 c.1), c.2)) := (rfl)
theorem y_34 : stS m (nd 34 i a b) H l n c = ((em 22 (m 68 4) (-1) (xE (sww H c.2 m) a c.1), c.2)) := (rfl)
theorem y_35 : stS m (nd 35 i a b) H l n c = ((em 20 0 (-1) (xE (sww H c.2 m) a c.1), c.2)) := (rfl)
theorem y_36 : stS m (nd 36 i a b) H l n c = ((fun c1 => (fun s2 y2 => (fun c4 => (c4.1, slb (nln c1.2) (c4.1.1.length : Int) c4.2)) (stS m b H 0 0 (s2, slb l (s2.1.length : Int) y2))) (em 15 0 (nln c1.2) c1.1) (nlb c1.2)) (stS m a H 0 0 c)) := (rfl)
theorem y_22 : stS m (nd 22 i a b) H l n c = c := (rfl)
theorem y_32 : stS m (nd 32 i a b) H l n c = c := (rfl)
end XS
