/-! ANY ORDER: its items; class and model lay them -/
theorem put_eqq {m : Mem} {a k : Nat} {v : Int} : put m a k v a k = v := by
  rw [put_ss, if_pos rfl, if_pos rfl]
theorem put_nea {m : Mem} {a k b j : Nat} {v : Int} (h : b ≠ a) : put m a k v b j = m b j := by
  rw [put_ss, if_neg h]
def mtI (c k : Int) : List It := iL 6 0 0 c ++ (iL 3 0 0 4 ++ iL 11 0 0 (3 * k - 2))
def lvI : List Int → List It
  | [] => []
  | c :: cs => mtI c ((c :: cs).length : Int) ++ lvI cs
theorem lvS_I {wr : Int} {P N : Int → Int} {cur : Nat} : ∀ (cs : List Int) (S : lS), lvS wr cs S = cI wr P N cur (lvI cs) S
  | [], S => rfl
  | c :: cs, S => by
    have e : mtS wr c ((c :: cs).length : Int) S = cI wr P N cur (mtI c ((c :: cs).length : Int)) S := by
      unfold mtS mtI
      rw [← cI_app, ← cI_app, eS_I (P := P) (N := N) (cur := cur), eS_I (P := P) (N := N) (cur := cur), eS_I (P := P) (N := N) (cur := cur)]
      rfl
    show lvS wr cs (mtS wr c ((c :: cs).length : Int) S) = _
    rw [lvS_I cs, e, cI_app]
    rfl
theorem lvM_I : ∀ (cs : List Int) (T : mSt), lvM cs T = mI (lvI cs) T
  | [], T => rfl
  | c :: cs, T => by
    have e : mtM c ((c :: cs).length : Int) T = mI (mtI c ((c :: cs).length : Int)) T := by
      unfold mtM mtI
      rw [← mI_app, ← mI_app, tE_I, tE_I, tE_I]
      rfl
    show lvM cs (mtM c ((c :: cs).length : Int) T) = _
    rw [lvM_I cs, e, mI_app]
    rfl
def itO (o : Int) (f0 f1 : Bool) (lk x y y2 y3 : Int) (cs : List Int) : List It := if o = 0 then it_0 f0 f1 lk x y y2 y3 else if o = 1 then it_1 f0 f1 lk x y y2 y3 else if o = 2 then it_2 f0 f1 lk x y y2 y3 else if o = 3 then it_3 f0 f1 lk x y y2 y3 else if o = 4 then it_4 f0 f1 lk x y y2 y3 else if o = 5 then it_5 f0 f1 lk x y y2 y3 else if o = 6 then it_6 f0 f1 lk x y y2 y3 else if o = 7 then it_7 f0 f1 lk x y y2 y3 else if o = 8 then it_8 f0 f1 lk x y y2 y3 else if o = 9 then it_9 f0 f1 lk x y y2 y3 else if o = 10 then it_10 f0 f1 lk x y y2 y3 else if o = 11 then it_11 f0 f1 lk x y y2 y3 else if o = 12 then it_12 f0 f1 lk x y y2 y3 else if o = 13 then it_13 f0 f1 lk x y y2 y3 else if o = 15 then it_15 f0 f1 lk x y y2 y3 else if o = 16 then it_16 f0 f1 lk x y y2 y3 else if o = 17 then it_17 f0 f1 lk x y y2 y3 else if o = 18 then it_18 f0 f1 lk x y y2 y3 else if o = 19 then it_19 f0 f1 lk x y y2 y3 else if o = 20 then it_20 f0 f1 lk x y y2 y3 else if o = 21 then it_21 f0 f1 lk x y y2 y3 else if o = 22 then it_22 f0 f1 lk x y y2 y3 else if o = 23 then it_23 f0 f1 lk x y y2 y3 else if o = 24 then it_24 f0 f1 lk x y y2 y3 else if o = 25 then it_25 f0 f1 lk x y y2 y3 else if o = 14 then (if x = 0 then it_14_0 f0 f1 lk x y y2 y3 else if x = 1 then it_14_1 f0 f1 lk x y y2 y3 else if x = 2 then it_14_2 f0 f1 lk x y y2 y3 else if x = 3 then it_14_3 f0 f1 lk x y y2 y3 else if x = 4 then it_14_4 f0 f1 lk x y y2 y3 else if x = 5 then it_14_5 f0 f1 lk x y y2 y3 else []) else if o = 26 then lvI cs ++ it_B f0 f1 lk x y y2 y3 else []
theorem itO_0 {f0 f1 : Bool} {lk x y y2 y3 : Int} {cs : List Int} : itO 0 f0 f1 lk x y y2 y3 cs = it_0 f0 f1 lk x y y2 y3 := rfl
theorem itO_1 {f0 f1 : Bool} {lk x y y2 y3 : Int} {cs : List Int} : itO 1 f0 f1 lk x y y2 y3 cs = it_1 f0 f1 lk x y y2 y3 := rfl
theorem itO_2 {f0 f1 : Bool} {lk x y y2 y3 : Int} {cs : List Int} : itO 2 f0 f1 lk x y y2 y3 cs = it_2 f0 f1 lk x y y2 y3 := rfl
theorem itO_3 {f0 f1 : Bool} {lk x y y2 y3 : Int} {cs : List Int} : itO 3 f0 f1 lk x y y2 y3 cs = it_3 f0 f1 lk x y y2 y3 := rfl
theorem itO_4 {f0 f1 : Bool} {lk x y y2 y3 : Int} {cs : List Int} : itO 4 f0 f1 lk x y y2 y3 cs = it_4 f0 f1 lk x y y2 y3 := rfl
theorem itO_5 {f0 f1 : Bool} {lk x y y2 y3 : Int} {cs : List Int} : itO 5 f0 f1 lk x y y2 y3 cs = it_5 f0 f1 lk x y y2 y3 := rfl
theorem itO_6 {f0 f1 : Bool} {lk x y y2 y3 : Int} {cs : List Int} : itO 6 f0 f1 lk x y y2 y3 cs = it_6 f0 f1 lk x y y2 y3 := rfl
theorem itO_7 {f0 f1 : Bool} {lk x y y2 y3 : Int} {cs : List Int} : itO 7 f0 f1 lk x y y2 y3 cs = it_7 f0 f1 lk x y y2 y3 := rfl
theorem itO_8 {f0 f1 : Bool} {lk x y y2 y3 : Int} {cs : List Int} : itO 8 f0 f1 lk x y y2 y3 cs = it_8 f0 f1 lk x y y2 y3 := rfl
theorem itO_9 {f0 f1 : Bool} {lk x y y2 y3 : Int} {cs : List Int} : itO 9 f0 f1 lk x y y2 y3 cs = it_9 f0 f1 lk x y y2 y3 := rfl
theorem itO_10 {f0 f1 : Bool} {lk x y y2 y3 : Int} {cs : List Int} : itO 10 f0 f1 lk x y y2 y3 cs = it_10 f0 f1 lk x y y2 y3 := rfl
theorem itO_11 {f0 f1 : Bool} {lk x y y2 y3 : Int} {cs : List Int} : itO 11 f0 f1 lk x y y2 y3 cs = it_11 f0 f1 lk x y y2 y3 := rfl
theorem itO_12 {f0 f1 : Bool} {lk x y y2 y3 : Int} {cs : List Int} : itO 12 f0 f1 lk x y y2 y3 cs = it_12 f0 f1 lk x y y2 y3 := rfl
theorem itO_13 {f0 f1 : Bool} {lk x y y2 y3 : Int} {cs : List Int} : itO 13 f0 f1 lk x y y2 y3 cs = it_13 f0 f1 lk x y y2 y3 := rfl
theorem itO_15 {f0 f1 : Bool} {lk x y y2 y3 : Int} {cs : List Int} : itO 15 f0 f1 lk x y y2 y3 cs = it_15 f0 f1 lk x y y2 y3 := rfl
theorem itO_16 {f0 f1 : Bool} {lk x y y2 y3 : Int} {cs : List Int} : itO 16 f0 f1 lk x y y2 y3 cs = it_16 f0 f1 lk x y y2 y3 := rfl
theorem itO_17 {f0 f1 : Bool} {lk x y y2 y3 : Int} {cs : List Int} : itO 17 f0 f1 lk x y y2 y3 cs = it_17 f0 f1 lk x y y2 y3 := rfl
theorem itO_18 {f0 f1 : Bool} {lk x y y2 y3 : Int} {cs : List Int} : itO 18 f0 f1 lk x y y2 y3 cs = it_18 f0 f1 lk x y y2 y3 := rfl
theorem itO_19 {f0 f1 : Bool} {lk x y y2 y3 : Int} {cs : List Int} : itO 19 f0 f1 lk x y y2 y3 cs = it_19 f0 f1 lk x y y2 y3 := rfl
theorem itO_20 {f0 f1 : Bool} {lk x y y2 y3 : Int} {cs : List Int} : itO 20 f0 f1 lk x y y2 y3 cs = it_20 f0 f1 lk x y y2 y3 := rfl
theorem itO_21 {f0 f1 : Bool} {lk x y y2 y3 : Int} {cs : List Int} : itO 21 f0 f1 lk x y y2 y3 cs = it_21 f0 f1 lk x y y2 y3 := rfl
theorem itO_22 {f0 f1 : Bool} {lk x y y2 y3 : Int} {cs : List Int} : itO 22 f0 f1 lk x y y2 y3 cs = it_22 f0 f1 lk x y y2 y3 := rfl
theorem itO_23 {f0 f1 : Bool} {lk x y y2 y3 : Int} {cs : List Int} : itO 23 f0 f1 lk x y y2 y3 cs = it_23 f0 f1 lk x y y2 y3 := rfl
theorem itO_24 {f0 f1 : Bool} {lk x y y2 y3 : Int} {cs : List Int} : itO 24 f0 f1 lk x y y2 y3 cs = it_24 f0 f1 lk x y y2 y3 := rfl
theorem itO_25 {f0 f1 : Bool} {lk x y y2 y3 : Int} {cs : List Int} : itO 25 f0 f1 lk x y y2 y3 cs = it_25 f0 f1 lk x y y2 y3 := rfl
theorem itO_14_0 {f0 f1 : Bool} {lk y y2 y3 : Int} {cs : List Int} : itO 14 f0 f1 lk 0 y y2 y3 cs = it_14_0 f0 f1 lk 0 y y2 y3 := rfl
theorem itO_14_1 {f0 f1 : Bool} {lk y y2 y3 : Int} {cs : List Int} : itO 14 f0 f1 lk 1 y y2 y3 cs = it_14_1 f0 f1 lk 1 y y2 y3 := rfl
theorem itO_14_2 {f0 f1 : Bool} {lk y y2 y3 : Int} {cs : List Int} : itO 14 f0 f1 lk 2 y y2 y3 cs = it_14_2 f0 f1 lk 2 y y2 y3 := rfl
theorem itO_14_3 {f0 f1 : Bool} {lk y y2 y3 : Int} {cs : List Int} : itO 14 f0 f1 lk 3 y y2 y3 cs = it_14_3 f0 f1 lk 3 y y2 y3 := rfl
theorem itO_14_4 {f0 f1 : Bool} {lk y y2 y3 : Int} {cs : List Int} : itO 14 f0 f1 lk 4 y y2 y3 cs = it_14_4 f0 f1 lk 4 y y2 y3 := rfl
theorem itO_14_5 {f0 f1 : Bool} {lk y y2 y3 : Int} {cs : List Int} : itO 14 f0 f1 lk 5 y y2 y3 cs = it_14_5 f0 f1 lk 5 y y2 y3 := rfl
theorem itO_26 {f0 f1 : Bool} {lk x y y2 y3 : Int} {cs : List Int} : itO 26 f0 f1 lk x y y2 y3 cs = lvI cs ++ it_B f0 f1 lk x y y2 y3 := rfl
def yC (M : Mem) (cd : Nat) (o x : Int) : Int := if o = 2 ∨ o = 3 then IFc M x else if o = 6 ∨ o = 7 then LNc M x else if o = 17 then ENc M cd x else if o = 23 then FRc M cd x else M 71 6
def yM (m : Mem) (o x : Int) : Int := if o = 2 ∨ o = 3 then IFm m x else if o = 6 ∨ o = 7 then m 168 x.toNat else if o = 17 then m 182 x.toNat else if o = 23 then szM m x.toNat else m 170 x.toNat
def nC (M : Mem) (cd : Nat) (t : Int) : Int := if 0 ≤ t then PLc M cd t else if t = -1 then M cd 12 + M 57 8 else M cd 12 + OFc M (-10 - t)
theorem nC_v {M : Mem} {cd : Nat} {x : Int} (h : 0 ≤ x) : M cd 12 + OFc M x = nC M cd (-10 - x) := by
  unfold nC
  rw [if_neg (by omega), if_neg (by omega), show -10 - (-10 - x) = x by omega]
theorem nC_p {M : Mem} {cd : Nat} {x : Int} (h : 0 ≤ x) : PLc M cd x = nC M cd x := by
  unfold nC
  rw [if_pos h]
theorem fB_or : ∀ j : Nat, j < 4 → fB (ior (j : Int) (ishl 1 0)) (0 + 1) = fB (j : Int) (0 + 1) := by decide +kernel
/-- what must hold of an order that the class lays -/
def CO (M : Mem) (cd : Nat) (o x : Int) : Prop := (0 ≤ o ∧ o ≤ 26) ∧ (-1000000 ≤ x ∧ x ≤ 1000000) ∧ (o = 4 ∨ o = 5 ∨ o = 6 ∨ o = 7 → 0 ≤ x) ∧ (o = 17 → 0 ≤ ENc M cd x) ∧ (o = 14 → 0 ≤ x ∧ x ≤ 5) ∧ (o = 26 → (0 ≤ x ∧ x < M 57 7) ∧ 0 ≤ M 66 x.toNat ∧ M 66 (x + 1).toNat ≤ M 57 14 ∧ M 66 x.toNat ≤ M 66 (x + 1).toNat ∧ M 66 (x + 1).toNat ≤ 1510 ∧ M 66 (x + 1).toNat - M 66 x.toNat ≤ 600) ∧ (o = 0 → 0 ≤ x ∧ x < M 57 7)
def csC (M : Mem) (x : Int) : List Int := rcL M (M 66 x.toNat) (M 66 (x + 1).toNat - M 66 x.toNat).toNat
def csM (m : Mem) (x : Int) : List Int := rcM m (m 173 x.toNat) (m 174 x.toNat).toNat
/-- the items of an order of the class, when its bits are j -/
def itC (M : Mem) (cd : Nat) (j : Int) (i : Nat) : List It := itO (M (cd + 1) i) (fB j 0) (fB j 1) (M (cd + 3) i) (M (cd + 2) i) (yC M cd (M (cd + 1) i) (M (cd + 2) i)) (WAc M cd (M (cd + 2) i)) (FRc M cd (M (cd + 2) i)) (csC M (M (cd + 2) i))
section Any
variable {F L d : Nat} {xs : Nat → Int32} {S : lS} {T : mSt} {cd : Nat} {m M M2 : Mem} {i x l o : Int} {n : Nat}
theorem K_50 (X0 : LX cd M2) (hM2 : put m 71 5 i = M2) (X : LX cd M) (hM : M = if M2 (cd + 1) i.toNat = 0 then put M2 71 6 (PAc M2 cd (M2 (cd + 2) i.toNat)) else M2) (hF : 100000 ≤ F) (hb : LBd S n) (hn : n < 3000) (hi : 0 ≤ i) (hi2 : i < M cd 0) (hO : CO M cd (M (cd + 1) i.toNat) (M (cd + 2) i.toNat)) (h4 : M 57 4 ≤ 1510) (hnm : ∀ f : Int, -1000000 ≤ nmI M f ∧ nmI M f ≤ 1000000) (h7 : M 57 7 ≤ 300) (hJ : 0 ≤ S.2.2.2.1 i.toNat ∧ S.2.2.2.1 i.toNat < 4) : Cx F (d + 10) 50 [71, i] (Hp L xs (lyS S cd m)) = some ([], Hp L xs (lyS (cI (M 71 3) (PLc M cd) (nC M cd) i.toNat (itC M cd (S.2.2.2.1 i.toNat) i.toNat) (S.1, 0, S.2.2)) cd M)) := by
  have hc := X.1.1
  have q5 : M2 71 5 = i := by rw [← hM2]; exact put_eqq
  have e1 : M (cd + 1) i.toNat = M2 (cd + 1) i.toNat := by
    rw [hM]; split
    · exact put_nea (by omega)
    · rfl
  have e2 : M (cd + 2) i.toNat = M2 (cd + 2) i.toNat := by
    rw [hM]; split
    · exact put_nea (by omega)
    · rfl
  have e3 : M2 cd 0 = M cd 0 := by
    rw [hM]; split
    · exact (put_nea (by omega)).symm
    · rfl
  have q6 : M 71 5 = i := by
    rw [hM]; split
    · rw [← q5]; rfl
    · exact q5
  have hf2 : fB (ior (S.2.2.2.1 (M 71 5).toNat) (ishl 1 0)) (0 + 1) = fB (S.2.2.2.1 i.toNat) 1 := by
    rw [q6]
    have z := fB_or (S.2.2.2.1 i.toNat).toNat (by omega)
    rw [show (((S.2.2.2.1 i.toNat).toNat : Nat) : Int) = S.2.2.2.1 i.toNat by omega] at z
    exact z
  have hf1 : fB (S.2.2.2.1 (M 71 5).toNat) (0 + 1) = fB (S.2.2.2.1 i.toNat) 1 := by rw [q6]; rfl
  unfold itC
  obtain ⟨o1, o2, o3, o4, o5, o6, o7⟩ := hO
  have ht : tgt M cd = PLc M cd (M (cd + 3) i.toNat) := by unfold tgt; rw [q6]
  rw [e3.symm] at hi2
  generalize hop : M (cd + 1) i.toNat = o at *
  generalize hx : M (cd + 2) i.toNat = x at *
  rw [← e1] at hM
  have hop2 := e1.symm
  have hx2 := e2.symm
  have hcs : o = 0 ∨ o = 1 ∨ o = 2 ∨ o = 3 ∨ o = 4 ∨ o = 5 ∨ o = 6 ∨ o = 7 ∨ o = 8 ∨ o = 9 ∨ o = 10 ∨ o = 11 ∨ o = 12 ∨ o = 13 ∨ o = 14 ∨ o = 15 ∨ o = 16 ∨ o = 17 ∨ o = 18 ∨ o = 19 ∨ o = 20 ∨ o = 21 ∨ o = 22 ∨ o = 23 ∨ o = 24 ∨ o = 25 ∨ o = 26 := by omega
  rcases hcs with h | h | h | h | h | h | h | h | h | h | h | h | h | h | h | h | h | h | h | h | h | h | h | h | h | h | h
  · subst h
    rw [if_pos rfl] at hM
    have e := O_0 (F := F) (L := L) (d := d) (xs := xs) (S := S) (x := x) X0 hM2 X (by rw [hM, hx2]) hb (by omega) hi hi2 hop2 (o7 rfl) hx2 o2
    have z := Ic_0 (S := (S.1, 0, S.2.2)) (m := M) (cd := cd) (x := x) (P := PLc M cd) (N := nC M cd) (f1 := fB (S.2.2.2.1 i.toNat) 1) (lk := M (cd + 3) i.toNat)
    rw [q6] at z
    rw [e, itO_0, z]
    rfl
  · subst h
    rw [if_neg (by decide)] at hM
    subst hM
    have e := O_1 (F := F) (L := L) (d := d) (xs := xs) (S := S) (x := x) X hM2 hb (by omega) hi hi2 hop hx o2
    have z := Ic_1 (S := (S.1, 0, S.2.2)) (m := M) (cd := cd) (x := x) (P := PLc M cd) (N := nC M cd) (f1 := fB (S.2.2.2.1 i.toNat) 1) (lk := M (cd + 3) i.toNat)
    rw [q6] at z
    rw [e, itO_1, z]
    rfl
  · subst h
    rw [if_neg (by decide)] at hM
    subst hM
    have e := O_2 (F := F) (L := L) (d := d) (xs := xs) (S := S) (x := x) X hM2 hb (by omega) hi hi2 hop hx o2
    have z := Ic_2 (S := (S.1, 0, S.2.2)) (m := M) (cd := cd) (x := x) (P := PLc M cd) (N := nC M cd) (f1 := fB (S.2.2.2.1 i.toNat) 1) (lk := M (cd + 3) i.toNat)
    rw [q6] at z
    rw [e, itO_2, z]
    rfl
  · subst h
    rw [if_neg (by decide)] at hM
    subst hM
    have e := O_3 (F := F) (L := L) (d := d) (xs := xs) (S := S) (x := x) X hM2 hb (by omega) hi hi2 hop hx o2
    have z := Ic_3 (S := (S.1, 0, S.2.2)) (m := M) (cd := cd) (x := x) (P := PLc M cd) (N := nC M cd) (f1 := fB (S.2.2.2.1 i.toNat) 1) (lk := M (cd + 3) i.toNat)
    rw [q6] at z
    rw [e, itO_3, z]
    rfl
  · subst h
    rw [if_neg (by decide)] at hM
    subst hM
    have e := O_4 (F := F) (L := L) (d := d) (xs := xs) (S := S) (x := x) X hM2 hb (by omega) hi hi2 hop hx o2
    have z := Ic_4 (S := (S.1, 0, S.2.2)) (m := M) (cd := cd) (x := x) (P := PLc M cd) (N := nC M cd) (f1 := fB (S.2.2.2.1 i.toNat) 1) (lk := M (cd + 3) i.toNat) (nC_v (o3 (by decide)))
    rw [q6] at z
    rw [e, itO_4, z]
    rfl
  · subst h
    rw [if_neg (by decide)] at hM
    subst hM
    have e := O_5 (F := F) (L := L) (d := d) (xs := xs) (S := S) (x := x) X hM2 hb (by omega) hi hi2 hop hx o2
    have z := Ic_5 (S := (S.1, 0, S.2.2)) (m := M) (cd := cd) (x := x) (P := PLc M cd) (N := nC M cd) (f1 := fB (S.2.2.2.1 i.toNat) 1) (lk := M (cd + 3) i.toNat) (nC_v (o3 (by decide)))
    rw [q6] at z
    rw [e, itO_5, z]
    rfl
  · subst h
    rw [if_neg (by decide)] at hM
    subst hM
    have e := O_6 (F := F) (L := L) (d := d) (xs := xs) (S := S) (x := x) X hM2 hb (by omega) hi hi2 hop hx o2
    have z := Ic_6 (S := (S.1, 0, S.2.2)) (m := M) (cd := cd) (x := x) (P := PLc M cd) (N := nC M cd) (f1 := fB (S.2.2.2.1 i.toNat) 1) ht (nC_v (o3 (by decide)))
    rw [q6] at z
    rw [e, itO_6, z]
    rfl
  · subst h
    rw [if_neg (by decide)] at hM
    subst hM
    have e := O_7 (F := F) (L := L) (d := d) (xs := xs) (S := S) (x := x) X hM2 hb (by omega) hi hi2 hop hx o2
    have z := Ic_7 (S := (S.1, 0, S.2.2)) (m := M) (cd := cd) (x := x) (P := PLc M cd) (N := nC M cd) (f1 := fB (S.2.2.2.1 i.toNat) 1) ht (nC_v (o3 (by decide)))
    rw [q6] at z
    rw [e, itO_7, z]
    rfl
  · subst h
    rw [if_neg (by decide)] at hM
    subst hM
    have e := O_8 (F := F) (L := L) (d := d) (xs := xs) (S := S) (x := x) X hM2 hb (by omega) hi hi2 hop hx o2
    have z := Ic_8 (S := (S.1, 0, S.2.2)) (m := M) (cd := cd) (x := x) (P := PLc M cd) (N := nC M cd) (f1 := fB (S.2.2.2.1 i.toNat) 1) ht
    rw [q6] at z
    rw [e, itO_8, z]
    rfl
  · subst h
    rw [if_neg (by decide)] at hM
    subst hM
    have e := O_9 (F := F) (L := L) (d := d) (xs := xs) (S := S) (x := x) X hM2 hb (by omega) hi hi2 hop hx o2
    have z := Ic_9 (S := (S.1, 0, S.2.2)) (m := M) (cd := cd) (x := x) (P := PLc M cd) (N := nC M cd) (f1 := fB (S.2.2.2.1 i.toNat) 1) ht
    rw [q6] at z
    rw [e, itO_9, z]
    rfl
  · subst h
    rw [if_neg (by decide)] at hM
    subst hM
    have e := O_10 (F := F) (L := L) (d := d) (xs := xs) (S := S) (x := x) X hM2 hb (by omega) hi hi2 hop hx o2
    have z := Ic_10 (S := (S.1, 0, S.2.2)) (m := M) (cd := cd) (x := x) (P := PLc M cd) (N := nC M cd) (f1 := fB (S.2.2.2.1 i.toNat) 1) ht
    rw [q6] at z
    rw [e, itO_10, z]
    rfl
  · subst h
    rw [if_neg (by decide)] at hM
    subst hM
    have e := O_11 (F := F) (L := L) (d := d) (xs := xs) (S := S) (x := x) X hM2 hb (by omega) hi hi2 hop hx o2
    have z := Ic_11 (S := (S.1, 0, S.2.2)) (m := M) (cd := cd) (x := x) (P := PLc M cd) (N := nC M cd) (f1 := fB (S.2.2.2.1 i.toNat) 1) ht hf1 hf2
    rw [q6] at z
    rw [e, itO_11, z]
    rfl
  · subst h
    rw [if_neg (by decide)] at hM
    subst hM
    have e := O_12 (F := F) (L := L) (d := d) (xs := xs) (S := S) (x := x) X hM2 hb (by omega) hi hi2 hop hx o2
    have z := Ic_12 (S := (S.1, 0, S.2.2)) (m := M) (cd := cd) (x := x) (P := PLc M cd) (N := nC M cd) (f1 := fB (S.2.2.2.1 i.toNat) 1) ht
    rw [q6] at z
    rw [e, itO_12, z]
    rfl
  · subst h
    rw [if_neg (by decide)] at hM
    subst hM
    have e := O_13 (F := F) (L := L) (d := d) (xs := xs) (S := S) (x := x) X hM2 hb (by omega) hi hi2 hop hx o2
    have z := Ic_13 (S := (S.1, 0, S.2.2)) (m := M) (cd := cd) (x := x) (P := PLc M cd) (N := nC M cd) (f1 := fB (S.2.2.2.1 i.toNat) 1) ht
    rw [q6] at z
    rw [e, itO_13, z]
    rfl
  · subst h
    rw [if_neg (by decide)] at hM
    subst hM
    have hcz : x = 0 ∨ x = 1 ∨ x = 2 ∨ x = 3 ∨ x = 4 ∨ x = 5 := by have := o5 rfl; omega
    rcases hcz with hz | hz | hz | hz | hz | hz
    · subst hz
      have e := O_14_0 (F := F) (L := L) (d := d) (xs := xs) (S := S) (x := 0) X hM2 hb (by omega) hi hi2 hop hx o2 rfl
      have z := Ic_14_0 (S := (S.1, 0, S.2.2)) (m := M) (cd := cd) (x := 0) (P := PLc M cd) (N := nC M cd) (f1 := fB (S.2.2.2.1 i.toNat) 1) (lk := M (cd + 3) i.toNat)
      rw [q6] at z
      rw [e, itO_14_0, z]
      rfl
    · subst hz
      have e := O_14_1 (F := F) (L := L) (d := d) (xs := xs) (S := S) (x := 1) X hM2 hb (by omega) hi hi2 hop hx o2 rfl
      have z := Ic_14_1 (S := (S.1, 0, S.2.2)) (m := M) (cd := cd) (x := 1) (P := PLc M cd) (N := nC M cd) (f1 := fB (S.2.2.2.1 i.toNat) 1) (lk := M (cd + 3) i.toNat)
      rw [q6] at z
      rw [e, itO_14_1, z]
      rfl
    · subst hz
      have e := O_14_2 (F := F) (L := L) (d := d) (xs := xs) (S := S) (x := 2) X hM2 hb (by omega) hi hi2 hop hx o2 rfl
      have z := Ic_14_2 (S := (S.1, 0, S.2.2)) (m := M) (cd := cd) (x := 2) (P := PLc M cd) (N := nC M cd) (f1 := fB (S.2.2.2.1 i.toNat) 1) (lk := M (cd + 3) i.toNat)
      rw [q6] at z
      rw [e, itO_14_2, z]
      rfl
    · subst hz
      have e := O_14_3 (F := F) (L := L) (d := d) (xs := xs) (S := S) (x := 3) X hM2 hb (by omega) hi hi2 hop hx o2 rfl
      have z := Ic_14_3 (S := (S.1, 0, S.2.2)) (m := M) (cd := cd) (x := 3) (P := PLc M cd) (N := nC M cd) (f1 := fB (S.2.2.2.1 i.toNat) 1) (lk := M (cd + 3) i.toNat)
      rw [q6] at z
      rw [e, itO_14_3, z]
      rfl
    · subst hz
      have e := O_14_4 (F := F) (L := L) (d := d) (xs := xs) (S := S) (x := 4) X hM2 hb (by omega) hi hi2 hop hx o2 rfl
      have z := Ic_14_4 (S := (S.1, 0, S.2.2)) (m := M) (cd := cd) (x := 4) (P := PLc M cd) (N := nC M cd) (f1 := fB (S.2.2.2.1 i.toNat) 1) (lk := M (cd + 3) i.toNat)
      rw [q6] at z
      rw [e, itO_14_4, z]
      rfl
    · subst hz
      have e := O_14_5 (F := F) (L := L) (d := d) (xs := xs) (S := S) (x := 5) X hM2 hb (by omega) hi hi2 hop hx o2 rfl
      have z := Ic_14_5 (S := (S.1, 0, S.2.2)) (m := M) (cd := cd) (x := 5) (P := PLc M cd) (N := nC M cd) (f1 := fB (S.2.2.2.1 i.toNat) 1) (lk := M (cd + 3) i.toNat)
      rw [q6] at z
      rw [e, itO_14_5, z]
      rfl
  · subst h
    rw [if_neg (by decide)] at hM
    subst hM
    have e := O_15 (F := F) (L := L) (d := d) (xs := xs) (S := S) (x := x) X hM2 hb (by omega) hi hi2 hop hx o2
    have z := Ic_15 (S := (S.1, 0, S.2.2)) (m := M) (cd := cd) (x := x) (P := PLc M cd) (N := nC M cd) (f1 := fB (S.2.2.2.1 i.toNat) 1) ht
    rw [q6] at z
    rw [e, itO_15, z]
    rfl
  · subst h
    rw [if_neg (by decide)] at hM
    subst hM
    have e := O_16 (F := F) (L := L) (d := d) (xs := xs) (S := S) (x := x) X hM2 hb (by omega) hi hi2 hop hx o2
    have z := Ic_16 (S := (S.1, 0, S.2.2)) (m := M) (cd := cd) (x := x) (P := PLc M cd) (N := nC M cd) (f1 := fB (S.2.2.2.1 i.toNat) 1) ht
    rw [q6] at z
    rw [e, itO_16, z]
    rfl
  · subst h
    rw [if_neg (by decide)] at hM
    subst hM
    have e := O_17 (F := F) (L := L) (d := d) (xs := xs) (S := S) (x := x) X hM2 hb (by omega) hi hi2 hop hx o2
    have z := Ic_17 (S := (S.1, 0, S.2.2)) (m := M) (cd := cd) (x := x) (P := PLc M cd) (N := nC M cd) (f1 := fB (S.2.2.2.1 i.toNat) 1) ht (nC_p (o4 rfl))
    rw [q6] at z
    rw [e, itO_17, z]
    rfl
  · subst h
    rw [if_neg (by decide)] at hM
    subst hM
    have e := O_18 (F := F) (L := L) (d := d) (xs := xs) (S := S) (x := x) X hM2 hb (by omega) hi hi2 hop hx o2
    have z := Ic_18 (S := (S.1, 0, S.2.2)) (m := M) (cd := cd) (x := x) (P := PLc M cd) (N := nC M cd) (f1 := fB (S.2.2.2.1 i.toNat) 1) (lk := M (cd + 3) i.toNat)
    rw [q6] at z
    rw [e, itO_18, z]
    rfl
  · subst h
    rw [if_neg (by decide)] at hM
    subst hM
    have e := O_19 (F := F) (L := L) (d := d) (xs := xs) (S := S) (x := x) X hM2 hb (by omega) hi hi2 hop hx o2
    have z := Ic_19 (S := (S.1, 0, S.2.2)) (m := M) (cd := cd) (x := x) (P := PLc M cd) (N := nC M cd) (f1 := fB (S.2.2.2.1 i.toNat) 1) ht
    rw [q6] at z
    rw [e, itO_19, z]
    rfl
  · subst h
    rw [if_neg (by decide)] at hM
    subst hM
    have e := O_20 (F := F) (L := L) (d := d) (xs := xs) (S := S) (x := x) X hM2 hb (by omega) hi hi2 hop hx o2
    have z := Ic_20 (S := (S.1, 0, S.2.2)) (m := M) (cd := cd) (x := x) (P := PLc M cd) (N := nC M cd) (f1 := fB (S.2.2.2.1 i.toNat) 1) (lk := M (cd + 3) i.toNat)
    rw [q6] at z
    rw [e, itO_20, z]
    rfl
  · subst h
    rw [if_neg (by decide)] at hM
    subst hM
    have e := O_21 (F := F) (L := L) (d := d) (xs := xs) (S := S) (x := x) X hM2 hb (by omega) hi hi2 hop hx o2
    have z := Ic_21 (S := (S.1, 0, S.2.2)) (m := M) (cd := cd) (x := x) (P := PLc M cd) (N := nC M cd) (f1 := fB (S.2.2.2.1 i.toNat) 1) ht
    rw [q6] at z
    rw [e, itO_21, z]
    rfl
  · subst h
    rw [if_neg (by decide)] at hM
    subst hM
    have e := O_22 (F := F) (L := L) (d := d) (xs := xs) (S := S) (x := x) X hM2 hb (by omega) hi hi2 hop hx o2
    have z := Ic_22 (S := (S.1, 0, S.2.2)) (m := M) (cd := cd) (x := x) (P := PLc M cd) (N := nC M cd) (f1 := fB (S.2.2.2.1 i.toNat) 1) (lk := M (cd + 3) i.toNat)
    rw [q6] at z
    rw [e, itO_22, z]
    rfl
  · subst h
    rw [if_neg (by decide)] at hM
    subst hM
    have e := O_23 (F := F) (L := L) (d := d) (xs := xs) (S := S) (x := x) X hM2 hb (by omega) hi hi2 hop hx o2
    have z := Ic_23 (S := (S.1, 0, S.2.2)) (m := M) (cd := cd) (x := x) (P := PLc M cd) (N := nC M cd) (f1 := fB (S.2.2.2.1 i.toNat) 1) (lk := M (cd + 3) i.toNat)
    rw [q6] at z
    rw [e, itO_23, z]
    rfl
  · subst h
    rw [if_neg (by decide)] at hM
    subst hM
    have e := O_24 (F := F) (L := L) (d := d) (xs := xs) (S := S) (x := x) X hM2 hb (by omega) hi hi2 hop hx o2
    have z := Ic_24 (S := (S.1, 0, S.2.2)) (m := M) (cd := cd) (x := x) (P := PLc M cd) (N := nC M cd) (f1 := fB (S.2.2.2.1 i.toNat) 1) ht
    rw [q6] at z
    rw [e, itO_24, z]
    rfl
  · subst h
    rw [if_neg (by decide)] at hM
    subst hM
    have e := O_25 (F := F) (L := L) (d := d) (xs := xs) (S := S) (x := x) X hM2 hb (by omega) hi hi2 hop hx o2
    have z := Ic_25 (S := (S.1, 0, S.2.2)) (m := M) (cd := cd) (x := x) (P := PLc M cd) (N := nC M cd) (f1 := fB (S.2.2.2.1 i.toNat) 1) ht
    rw [q6] at z
    rw [e, itO_25, z]
    rfl
  · subst h
    rw [if_neg (by decide)] at hM
    subst hM
    obtain ⟨w1, w2, w3, w4, w5⟩ := o6 rfl
    have e := O_26 (F := F) (L := L) (d := d) (xs := xs) (S := S) (x := x) X hM2 hF hb (by omega) hi hi2 hop hx h4 hnm w1 h7 w2 w3 w4 w5.1 w5.2
    rw [e, itO_26, ← cI_app, ← lvS_I]
    have z := Ic_B (m := M) (x := x) (S := lvS (M 71 3) (csC M x) (S.1, 0, S.2.2)) (P := PLc M cd) (N := nC M cd) (f1 := fB (S.2.2.2.1 i.toNat) 1) (lk := M (cd + 3) i.toNat)
    rw [q6] at z
    exact congrArg (fun w => some ([], Hp L xs (lyS w cd M))) z
/-- what must hold of the model's memory while it lays -/
def MX (m : Mem) : Prop := (∀ k, m 198 k = 0 ∨ m 198 k = 1) ∧ m 158 83 = 8 ∧ m 158 84 = 38 ∧ (0 ≤ m 158 85 ∧ m 158 85 < 1600) ∧ (∀ k : Nat, (k : Int) < m 158 21 → -1000000 ≤ m 168 k ∧ m 168 k ≤ 1000000) ∧ (∀ k : Nat, (k : Int) < m 158 25 → -1000000 ≤ m 170 k ∧ m 170 k ≤ 1000000) ∧ (∀ k : Nat, (k : Int) < m 158 25 → -1000000 ≤ szM m k ∧ szM m k ≤ 1000000) ∧ (∀ k : Nat, (k : Int) < m 158 25 → -1000000 ≤ wtM m k ∧ wtM m k ≤ 1000000) ∧ (∀ k : Nat, (k : Int) < m 158 36 → -1000000 ≤ m 175 k ∧ m 175 k ≤ 1000000)
/-- what must hold of an order that the model lays -/
def MO (m : Mem) (o x l : Int) : Prop := (0 ≤ o ∧ o ≤ 26) ∧ (-1000000 ≤ x ∧ x ≤ 1000000) ∧ (o = 0 ∨ o = 4 ∨ o = 5 ∨ o = 6 ∨ o = 7 ∨ o = 17 ∨ o = 22 ∨ o = 23 ∨ o = 26 → 0 ≤ x ∧ x < 1600) ∧ (o = 14 → 0 ≤ x ∧ x ≤ 5) ∧ (o = 6 ∨ o = 7 ∨ o = 8 ∨ o = 9 ∨ o = 10 ∨ o = 11 ∨ o = 12 ∨ o = 13 ∨ o = 15 ∨ o = 16 ∨ o = 17 ∨ o = 19 ∨ o = 21 ∨ o = 24 ∨ o = 25 → 0 ≤ l ∧ l < 12000) ∧ (o = 26 → 0 ≤ m 173 x.toNat ∧ m 173 x.toNat + m 174 x.toNat ≤ 1600 ∧ (0 ≤ m 174 x.toNat ∧ m 174 x.toNat ≤ 100) ∧ m 173 x.toNat + m 174 x.toNat ≤ m 158 36) ∧ (o = 0 ∨ o = 22 ∨ o = 23 ∨ o = 26 → x < m 158 25) ∧ (o = 6 ∨ o = 7 → x < m 158 21)
def itM (m : Mem) (g : Int) (i : Nat) : List It := itO (m 177 i) (fM m g) (fM m (g + 1)) (m 181 (m 179 i).toNat) (m 178 i) (yM m (m 177 i) (m 178 i)) (wtM m (m 178 i).toNat) (szM m (m 178 i).toNat) (csM m (m 178 i))
theorem K_281 (X : MX M) (hM : M = if m 177 i.toNat = 0 then put m 158 85 (m 178 i.toNat) else m) (hF : 100000 ≤ F) (hB : TBd T n) (hn : n < 500) (hgo : 0 ≤ T.2.2.1 ∧ T.2.2.1 ≤ 30000) (hno : 0 ≤ T.2.2.2.2.2.1 ∧ T.2.2.2.2.2.1 ≤ 30000) (hi : 0 ≤ i ∧ i < 12000) (hO : MO M (M 177 i.toNat) (M 178 i.toNat) (M 179 i.toNat)) : Cx F (d + 14) 281 [158, i] (Hp L xs (my T m)) = some ([], Hp L xs (my (mI (itM M T.2.2.1 i.toNat) T) M)) := by
  have e1 : M 177 i.toNat = m 177 i.toNat := by rw [hM]; split <;> rfl
  have e2 : M 178 i.toNat = m 178 i.toNat := by rw [hM]; split <;> rfl
  unfold itM
  obtain ⟨h01, h83, h84, h85, x168, x170, xsz, xwt, x175⟩ := X
  obtain ⟨o1, hxb, o3, o4, o5, o6, o7, o8⟩ := hO
  rw [← e1, ← e2] at hM
  generalize hop : M 177 i.toNat = o at *
  generalize hx : M 178 i.toNat = x at *
  generalize hlt : M 179 i.toNat = l at *
  have hcs : o = 0 ∨ o = 1 ∨ o = 2 ∨ o = 3 ∨ o = 4 ∨ o = 5 ∨ o = 6 ∨ o = 7 ∨ o = 8 ∨ o = 9 ∨ o = 10 ∨ o = 11 ∨ o = 12 ∨ o = 13 ∨ o = 14 ∨ o = 15 ∨ o = 16 ∨ o = 17 ∨ o = 18 ∨ o = 19 ∨ o = 20 ∨ o = 21 ∨ o = 22 ∨ o = 23 ∨ o = 24 ∨ o = 25 ∨ o = 26 := by omega
  rcases hcs with h | h | h | h | h | h | h | h | h | h | h | h | h | h | h | h | h | h | h | h | h | h | h | h | h | h | h
  · subst h
    rw [if_pos rfl] at hM
    have e := N_o0 (F := F) (L := L) (d := d) (xs := xs) (T := T) (n := n) (x := x) hM.symm hB hn hi e1.symm e2.symm (o3 (by decide)) (xwt _ (by have a1 := o3 (by decide); have a2 := o7 (by decide); omega)) (xsz _ (by have a1 := o3 (by decide); have a2 := o7 (by decide); omega)) (x170 _ (by have a1 := o3 (by decide); have a2 := o7 (by decide); omega))
    rw [e, itO_0, Im_0 (m := M) (x := x) (l := l) (T := T)]
    rfl
  · subst h
    rw [if_neg (by decide)] at hM
    subst hM
    have e := N_o1 (F := F) (L := L) (d := d) (xs := xs) (T := T) (n := n) (x := x) hB hn h01 hgo hno hi hop hx hlt hxb h83 h84 h85
    rw [e, itO_1, Im_1 (m := M) (x := x) (l := l) (T := T)]
    rfl
  · subst h
    rw [if_neg (by decide)] at hM
    subst hM
    have e := N_o2 (F := F) (L := L) (d := d) (xs := xs) (T := T) (n := n) (x := x) hB hn h01 hgo hno hi hop hx hlt hxb h83 h84 h85
    rw [e, itO_2, Im_2 (m := M) (x := x) (l := l) (T := T)]
    rfl
  · subst h
    rw [if_neg (by decide)] at hM
    subst hM
    have e := N_o3 (F := F) (L := L) (d := d) (xs := xs) (T := T) (n := n) (x := x) hB hn h01 hgo hno hi hop hx hlt hxb h83 h84 h85
    rw [e, itO_3, Im_3 (m := M) (x := x) (l := l) (T := T)]
    rfl
  · subst h
    rw [if_neg (by decide)] at hM
    subst hM
    have e := N_o4 (F := F) (L := L) (d := d) (xs := xs) (T := T) (n := n) (x := x) hB hn h01 hgo hno hi hop hx hlt (o3 (by decide)) hxb h83 h84 h85
    rw [e, itO_4, Im_4 (m := M) (x := x) (l := l) (T := T)]
    rfl
  · subst h
    rw [if_neg (by decide)] at hM
    subst hM
    have e := N_o5 (F := F) (L := L) (d := d) (xs := xs) (T := T) (n := n) (x := x) hB hn h01 hgo hno hi hop hx hlt (o3 (by decide)) hxb h83 h84 h85
    rw [e, itO_5, Im_5 (m := M) (x := x) (l := l) (T := T)]
    rfl
  · subst h
    rw [if_neg (by decide)] at hM
    subst hM
    have e := N_o6 (F := F) (L := L) (d := d) (xs := xs) (T := T) (n := n) (x := x) hB hn h01 hgo hno hi hop hx hlt (o5 (by decide)) (o3 (by decide)) hxb h83 h84 h85 (x168 _ (by have a1 := o3 (by decide); have a2 := o8 (by decide); omega))
    rw [e, itO_6, Im_6 (m := M) (x := x) (l := l) (T := T)]
    rfl
  · subst h
    rw [if_neg (by decide)] at hM
    subst hM
    have e := N_o7 (F := F) (L := L) (d := d) (xs := xs) (T := T) (n := n) (x := x) hB hn h01 hgo hno hi hop hx hlt (o5 (by decide)) (o3 (by decide)) hxb h83 h84 h85 (x168 _ (by have a1 := o3 (by decide); have a2 := o8 (by decide); omega))
    rw [e, itO_7, Im_7 (m := M) (x := x) (l := l) (T := T)]
    rfl
  · subst h
    rw [if_neg (by decide)] at hM
    subst hM
    have e := N_o8 (F := F) (L := L) (d := d) (xs := xs) (T := T) (n := n) (x := x) hB hn h01 hgo hno hi hop hx hlt (o5 (by decide)) hxb h83 h84 h85
    rw [e, itO_8, Im_8 (m := M) (x := x) (l := l) (T := T)]
    rfl
  · subst h
    rw [if_neg (by decide)] at hM
    subst hM
    have e := N_o9 (F := F) (L := L) (d := d) (xs := xs) (T := T) (n := n) (x := x) hB hn h01 hgo hno hi hop hx hlt (o5 (by decide)) hxb h83 h84 h85
    rw [e, itO_9, Im_9 (m := M) (x := x) (l := l) (T := T)]
    rfl
  · subst h
    rw [if_neg (by decide)] at hM
    subst hM
    have e := N_o10 (F := F) (L := L) (d := d) (xs := xs) (T := T) (n := n) (x := x) hB hn h01 hgo hno hi hop hx hlt (o5 (by decide)) hxb h83 h84 h85
    rw [e, itO_10, Im_10 (m := M) (x := x) (l := l) (T := T)]
    rfl
  · subst h
    rw [if_neg (by decide)] at hM
    subst hM
    have e := N_o11 (F := F) (L := L) (d := d) (xs := xs) (T := T) (n := n) (x := x) hB hn h01 hgo hno hi hop hx hlt (o5 (by decide)) hxb h83 h84 h85
    rw [e, itO_11, Im_11 (m := M) (x := x) (l := l) (T := T)]
    rfl
  · subst h
    rw [if_neg (by decide)] at hM
    subst hM
    have e := N_o12 (F := F) (L := L) (d := d) (xs := xs) (T := T) (n := n) (x := x) hB hn h01 hgo hno hi hop hx hlt (o5 (by decide)) hxb h83 h84 h85
    rw [e, itO_12, Im_12 (m := M) (x := x) (l := l) (T := T)]
    rfl
  · subst h
    rw [if_neg (by decide)] at hM
    subst hM
    have e := N_o13 (F := F) (L := L) (d := d) (xs := xs) (T := T) (n := n) (x := x) hB hn h01 hgo hno hi hop hx hlt (o5 (by decide)) hxb h83 h84 h85
    rw [e, itO_13, Im_13 (m := M) (x := x) (l := l) (T := T)]
    rfl
  · subst h
    rw [if_neg (by decide)] at hM
    subst hM
    have hcz : x = 0 ∨ x = 1 ∨ x = 2 ∨ x = 3 ∨ x = 4 ∨ x = 5 := by have := o4 rfl; omega
    rcases hcz with hz | hz | hz | hz | hz | hz
    · subst hz
      have e := N_o14_0 (F := F) (L := L) (d := d) (xs := xs) (T := T) (n := n) (x := 0) hB hn h01 hgo hno hi hop hx hlt rfl hxb h83 h84 h85
      rw [e, itO_14_0, Im_14_0 (m := M) (x := 0) (l := l) (T := T)]
      rfl
    · subst hz
      have e := N_o14_1 (F := F) (L := L) (d := d) (xs := xs) (T := T) (n := n) (x := 1) hB hn h01 hgo hno hi hop hx hlt rfl hxb h83 h84 h85
      rw [e, itO_14_1, Im_14_1 (m := M) (x := 1) (l := l) (T := T)]
      rfl
    · subst hz
      have e := N_o14_2 (F := F) (L := L) (d := d) (xs := xs) (T := T) (n := n) (x := 2) hB hn h01 hgo hno hi hop hx hlt rfl hxb h83 h84 h85
      rw [e, itO_14_2, Im_14_2 (m := M) (x := 2) (l := l) (T := T)]
      rfl
    · subst hz
      have e := N_o14_3 (F := F) (L := L) (d := d) (xs := xs) (T := T) (n := n) (x := 3) hB hn h01 hgo hno hi hop hx hlt rfl hxb h83 h84 h85
      rw [e, itO_14_3, Im_14_3 (m := M) (x := 3) (l := l) (T := T)]
      rfl
    · subst hz
      have e := N_o14_4 (F := F) (L := L) (d := d) (xs := xs) (T := T) (n := n) (x := 4) hB hn h01 hgo hno hi hop hx hlt rfl hxb h83 h84 h85
      rw [e, itO_14_4, Im_14_4 (m := M) (x := 4) (l := l) (T := T)]
      rfl
    · subst hz
      have e := N_o14_5 (F := F) (L := L) (d := d) (xs := xs) (T := T) (n := n) (x := 5) hB hn h01 hgo hno hi hop hx hlt rfl hxb h83 h84 h85
      rw [e, itO_14_5, Im_14_5 (m := M) (x := 5) (l := l) (T := T)]
      rfl
  · subst h
    rw [if_neg (by decide)] at hM
    subst hM
    have e := N_o15 (F := F) (L := L) (d := d) (xs := xs) (T := T) (n := n) (x := x) hB hn h01 hgo hno hi hop hx hlt (o5 (by decide)) hxb h83 h84 h85
    rw [e, itO_15, Im_15 (m := M) (x := x) (l := l) (T := T)]
    rfl
  · subst h
    rw [if_neg (by decide)] at hM
    subst hM
    have e := N_o16 (F := F) (L := L) (d := d) (xs := xs) (T := T) (n := n) (x := x) hB hn h01 hgo hno hi hop hx hlt (o5 (by decide)) hxb h83 h84 h85
    rw [e, itO_16, Im_16 (m := M) (x := x) (l := l) (T := T)]
    rfl
  · subst h
    rw [if_neg (by decide)] at hM
    subst hM
    have e := N_o17 (F := F) (L := L) (d := d) (xs := xs) (T := T) (n := n) (x := x) hB hn h01 hgo hno hi hop hx hlt (o5 (by decide)) (o3 (by decide)) hxb h83 h84 h85
    rw [e, itO_17, Im_17 (m := M) (x := x) (l := l) (T := T)]
    rfl
  · subst h
    rw [if_neg (by decide)] at hM
    subst hM
    have e := N_o18 (F := F) (L := L) (d := d) (xs := xs) (T := T) (n := n) (x := x) hB hn h01 hgo hno hi hop hx hlt hxb h83 h84 h85
    rw [e, itO_18, Im_18 (m := M) (x := x) (l := l) (T := T)]
    rfl
  · subst h
    rw [if_neg (by decide)] at hM
    subst hM
    have e := N_o19 (F := F) (L := L) (d := d) (xs := xs) (T := T) (n := n) (x := x) hB hn h01 hgo hno hi hop hx hlt (o5 (by decide)) hxb h83 h84 h85
    rw [e, itO_19, Im_19 (m := M) (x := x) (l := l) (T := T)]
    rfl
  · subst h
    rw [if_neg (by decide)] at hM
    subst hM
    have e := N_o20 (F := F) (L := L) (d := d) (xs := xs) (T := T) (n := n) (x := x) hB hn h01 hgo hno hi hop hx hlt hxb h83 h84 h85
    rw [e, itO_20, Im_20 (m := M) (x := x) (l := l) (T := T)]
    rfl
  · subst h
    rw [if_neg (by decide)] at hM
    subst hM
    have e := N_o21 (F := F) (L := L) (d := d) (xs := xs) (T := T) (n := n) (x := x) hB hn h01 hgo hno hi hop hx hlt (o5 (by decide)) hxb h83 h84 h85
    rw [e, itO_21, Im_21 (m := M) (x := x) (l := l) (T := T)]
    rfl
  · subst h
    rw [if_neg (by decide)] at hM
    subst hM
    have e := N_o22 (F := F) (L := L) (d := d) (xs := xs) (T := T) (n := n) (x := x) hB hn h01 hgo hno hi hop hx hlt (o3 (by decide)) hxb h83 h84 h85 (x170 _ (by have a1 := o3 (by decide); have a2 := o7 (by decide); omega))
    rw [e, itO_22, Im_22 (m := M) (x := x) (l := l) (T := T)]
    rfl
  · subst h
    rw [if_neg (by decide)] at hM
    subst hM
    have e := N_o23 (F := F) (L := L) (d := d) (xs := xs) (T := T) (n := n) (x := x) hB hn h01 hgo hno hi hop hx hlt (o3 (by decide)) hxb h83 h84 h85
    rw [e, itO_23, Im_23 (m := M) (x := x) (l := l) (T := T)]
    rfl
  · subst h
    rw [if_neg (by decide)] at hM
    subst hM
    have e := N_o24 (F := F) (L := L) (d := d) (xs := xs) (T := T) (n := n) (x := x) hB hn h01 hgo hno hi hop hx hlt (o5 (by decide)) hxb h83 h84 h85
    rw [e, itO_24, Im_24 (m := M) (x := x) (l := l) (T := T)]
    rfl
  · subst h
    rw [if_neg (by decide)] at hM
    subst hM
    have e := N_o25 (F := F) (L := L) (d := d) (xs := xs) (T := T) (n := n) (x := x) hB hn h01 hgo hno hi hop hx hlt (o5 (by decide)) hxb h83 h84 h85
    rw [e, itO_25, Im_25 (m := M) (x := x) (l := l) (T := T)]
    rfl
  · subst h
    rw [if_neg (by decide)] at hM
    subst hM
    obtain ⟨w1, w2, w3, w4⟩ := o6 rfl
    have e := N_o26 (F := F) (L := L) (d := d) (xs := xs) (T := T) (n := n) (x := x) hF hB hn hi hop hx w1 w2 w3 (o3 (by decide)) (fun k hk => x175 k (by omega)) (x170 _ (by have a1 := o3 (by decide); have a2 := o7 (by decide); omega))
    rw [e, itO_26, ← mI_app, ← lvM_I]
    exact congrArg (fun w => some ([], Hp L xs (my w M))) (Im_B (m := M) (x := x) (l := l) (T := lvM (csM M x) T))
end Any
