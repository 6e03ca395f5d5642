/-! FACTS OF ITEMS: how many goes, lengths, kinds, blocks -/
theorem ngo_m : ∀ ws : List Int, ngo (ws.map lit) = 0
  | [] => rfl
  | w :: ws => by
    show (if isG (lit w) then 1 else 0) + ngo (ws.map lit) = 0
    rw [ngo_m ws]
    rfl
theorem ngo_L {a b c d : Int} : ngo (iL a b c d) = 0 := rfl
theorem ngo_G {f : Bool} {lk : Int} : ngo (iGo f lk) = 1 := by cases f <;> rfl
theorem ngo_N {r t : Int} : ngo (iNt r t) = 0 := rfl
theorem ngo_0 : ngo [] = 0 := rfl
theorem nno_m : ∀ ws : List Int, nno (ws.map lit) = 0
  | [] => rfl
  | w :: ws => by
    show (if (lit w).2.1 = 4 then 1 else 0) + nno (ws.map lit) = 0
    rw [nno_m ws]
    rfl
theorem nno_L {a b c d : Int} : nno (iL a b c d) = 0 := rfl
theorem nno_G {f : Bool} {lk : Int} : nno (iGo f lk) = 0 := by cases f <;> rfl
theorem nno_N {r t : Int} : nno (iNt r t) = 1 := rfl
theorem len_L {a b c d : Int} : (iL a b c d).length = 1 := rfl
def gl (f : Bool) : Nat := if f then 3 else 1
theorem len_G {f : Bool} {lk : Int} : (iGo f lk).length = gl f := by cases f <;> rfl
theorem len_N {r t : Int} : (iNt r t).length = 2 := rfl
theorem len_on {r : Int} : (cOn r).length = 2 := rfl
theorem len_off {r : Int} : (cOff r).length = 2 := rfl
theorem len_pl {r v : Int} : (cPl r v).length = 2 := rfl
theorem len_co {r v : Int} : (cCo r v).length ≤ 2 := by
  unfold cCo
  split
  · exact Nat.le_of_ble_eq_true rfl
  · exact Nat.le_refl 2
theorem gl_b {f : Bool} : gl f ≤ 3 := by cases f <;> decide
theorem gl_m {f f' : Bool} (h : f = true → f' = true) : gl f ≤ gl f' := by
  cases f with
  | false => cases f' <;> decide
  | true => rw [h rfl]; exact Nat.le_refl _
theorem nG_0 {w t : Int} : ¬ isG (w, (0 : Int), t) := (by decide : ¬ ((0 : Int) = 1 ∨ (0 : Int) = 2))
theorem nG_3 {w t : Int} : ¬ isG (w, (3 : Int), t) := (by decide : ¬ ((3 : Int) = 1 ∨ (3 : Int) = 2))
theorem nG_4 {w t : Int} : ¬ isG (w, (4 : Int), t) := (by decide : ¬ ((4 : Int) = 1 ∨ (4 : Int) = 2))
theorem nG_5 {w t : Int} : ¬ isG (w, (5 : Int), t) := (by decide : ¬ ((5 : Int) = 1 ∨ (5 : Int) = 2))
/-- the kinds of goes are those that the flags say -/
def kO (F : Nat → Bool) : List It → Nat → Prop
  | [], _ => True
  | i :: l, k => (isG i → (i.2.1 = 2 ↔ F k = true)) ∧ kO F l (k + (if isG i then 1 else 0))
theorem kO_app {F : Nat → Bool} : ∀ (l1 l2 : List It) (k : Nat), kO F (l1 ++ l2) k ↔ (kO F l1 k ∧ kO F l2 (k + ngo l1))
  | [], l2, k => by
    show kO F l2 k ↔ (True ∧ kO F l2 (k + 0))
    rw [Nat.add_zero, true_and]
  | i :: l1, l2, k => by
    show ((isG i → (i.2.1 = 2 ↔ F k = true)) ∧ kO F (l1 ++ l2) (k + (if isG i then 1 else 0))) ↔ (((isG i → (i.2.1 = 2 ↔ F k = true)) ∧ kO F l1 (k + (if isG i then 1 else 0))) ∧ kO F l2 (k + ((if isG i then 1 else 0) + ngo l1)))
    rw [kO_app l1 l2, and_assoc, Nat.add_assoc]
theorem kO_m {F : Nat → Bool} : ∀ (ws : List Int) (k : Nat), kO F (ws.map lit) k ↔ True
  | [], k => Iff.rfl
  | w :: ws, k => by
    refine ⟨fun _ => trivial, fun _ => ⟨fun h => absurd h nG_0, (kO_m ws _).mpr trivial⟩⟩
theorem kO_L {F : Nat → Bool} {a b c d : Int} {k : Nat} : kO F (iL a b c d) k ↔ True := ⟨fun _ => trivial, fun _ => ⟨fun h => absurd h nG_0, trivial⟩⟩
theorem kO_N {F : Nat → Bool} {r t : Int} {k : Nat} : kO F (iNt r t) k ↔ True := ⟨fun _ => trivial, fun _ => ⟨fun h => absurd h nG_4, ⟨fun h => absurd h nG_5, trivial⟩⟩⟩
theorem kO_G {F : Nat → Bool} {f : Bool} {lk : Int} {k : Nat} : kO F (iGo f lk) k ↔ F k = f := by
  cases f with
  | false =>
    refine ⟨fun h => ?_, fun h => ⟨fun _ => ?_, trivial⟩⟩
    · have z : ((1 : Int) = 2 ↔ F k = true) := h.1 (Or.inl rfl)
      cases e : F k with
      | false => rfl
      | true => exact absurd (z.mpr e) (by decide)
    · rw [h]
      exact ⟨fun z => absurd z (by decide : ¬ ((1 : Int) = 2)), fun z => Bool.noConfusion z⟩
  | true =>
    refine ⟨fun h => ?_, fun h => ⟨fun _ => ?_, ⟨fun z => absurd z nG_3, ⟨fun z => absurd z nG_0, trivial⟩⟩⟩⟩
    · exact (h.1 (Or.inr rfl)).mp rfl
    · rw [h]
      exact ⟨fun _ => rfl, fun _ => rfl⟩
/-- a block -/
abbrev Bk : Type := Nat × Int × Int
def bkI (b : Bk) : List It := if b.1 = 0 then [lit b.2.1] else if b.1 = 1 then [(wrd 14 0 0 0, 1, b.2.1)] else if b.1 = 2 then [(wrd 6 5 0 0, 2, b.2.1), (wrd 7 5 0 0, 3, b.2.1)] else [(wrd 6 b.2.1 0 0, 4, b.2.2), (wrd 7 b.2.1 0 0, 5, b.2.2)]
def bkL : List Bk → List It
  | [] => []
  | b :: bs => bkI b ++ bkL bs
def bOk : List Bk → Prop
  | [] => True
  | b :: bs => (b.1 < 3 ∨ (0 ≤ b.2.1 ∧ b.2.1 < 8)) ∧ bOk bs
/-- a list of whole blocks -/
def Wf (l : List It) : Prop := ∃ bs, l = bkL bs ∧ bOk bs
theorem Wf_nil : Wf [] := ⟨[], rfl, trivial⟩
theorem Wf_one (w : Int) (l : List It) : Wf l → Wf (lit w :: l) := fun ⟨bs, e, h⟩ => ⟨(0, w, 0) :: bs, by rw [e]; rfl, Or.inl (by decide : 0 < 3), h⟩
theorem Wf_sh (lk : Int) (l : List It) : Wf l → Wf ((wrd 14 0 0 0, 1, lk) :: l) := fun ⟨bs, e, h⟩ => ⟨(1, lk, 0) :: bs, by rw [e]; rfl, Or.inl (by decide : 1 < 3), h⟩
theorem Wf_lo (lk : Int) (l : List It) : Wf l → Wf ((wrd 6 5 0 0, 2, lk) :: (wrd 7 5 0 0, 3, lk) :: l) := fun ⟨bs, e, h⟩ => ⟨(2, lk, 0) :: bs, by rw [e]; rfl, Or.inl (by decide : 2 < 3), h⟩
theorem Wf_nt (r t : Int) (l : List It) (h0 : 0 ≤ r) (h1 : r < 8) : Wf l → Wf ((wrd 6 r 0 0, 4, t) :: (wrd 7 r 0 0, 5, t) :: l) := fun ⟨bs, e, h⟩ => ⟨(3, r, t) :: bs, by rw [e]; rfl, Or.inr ⟨h0, h1⟩, h⟩
theorem Wf_ind {Q : List It → Prop} (q0 : Q []) (q1 : ∀ w l, Wf l → Q l → Q (lit w :: l)) (q2 : ∀ lk l, Wf l → Q l → Q ((wrd 14 0 0 0, 1, lk) :: l)) (q3 : ∀ lk l, Wf l → Q l → Q ((wrd 6 5 0 0, 2, lk) :: (wrd 7 5 0 0, 3, lk) :: l)) (q4 : ∀ r t l, 0 ≤ r → r < 8 → Wf l → Q l → Q ((wrd 6 r 0 0, 4, t) :: (wrd 7 r 0 0, 5, t) :: l)) {l : List It} (h : Wf l) : Q l := by
  obtain ⟨bs, e, hb⟩ := h
  subst e
  induction bs with
  | nil => exact q0
  | cons b bs ih =>
    have ih2 := ih hb.2
    have w : Wf (bkL bs) := ⟨bs, rfl, hb.2⟩
    show Q (bkI b ++ bkL bs)
    unfold bkI
    by_cases c0 : b.1 = 0
    · rw [if_pos c0]
      exact q1 _ _ w ih2
    · rw [if_neg c0]
      by_cases c1 : b.1 = 1
      · rw [if_pos c1]
        exact q2 _ _ w ih2
      · rw [if_neg c1]
        by_cases c2 : b.1 = 2
        · rw [if_pos c2]
          exact q3 _ _ w ih2
        · rw [if_neg c2]
          obtain ⟨u, v⟩ := hb.1.resolve_left (by omega)
          exact q4 _ _ _ u v w ih2
theorem Wf_app {l1 l2 : List It} (h : Wf l1) (h2 : Wf l2) : Wf (l1 ++ l2) := Wf_ind (Q := fun l => Wf (l ++ l2)) h2 (fun w _ _ ih => Wf_one w _ ih) (fun lk _ _ ih => Wf_sh lk _ ih) (fun lk _ _ ih => Wf_lo lk _ ih) (fun r t _ a b _ ih => Wf_nt r t _ a b ih) h
theorem Wf_m : ∀ ws : List Int, Wf (ws.map lit)
  | [] => Wf_nil
  | w :: ws => Wf_one w _ (Wf_m ws)
theorem Wf_L {a b c d : Int} : Wf (iL a b c d) := Wf_one _ _ Wf_nil
theorem Wf_G {f : Bool} {lk : Int} : Wf (iGo f lk) := by
  cases f with
  | false => exact Wf_sh lk _ Wf_nil
  | true => exact Wf_lo lk _ (Wf_one _ _ Wf_nil)
theorem Wf_N {r t : Int} (h0 : 0 ≤ r) (h1 : r < 8) : Wf (iNt r t) := Wf_nt r t _ h0 h1 Wf_nil
def gNo (o : Int) : Nat := if o = 11 then 2 else if o = 6 ∨ o = 7 ∨ o = 8 ∨ o = 9 ∨ o = 10 ∨ o = 12 ∨ o = 13 ∨ o = 15 ∨ o = 16 ∨ o = 17 ∨ o = 19 ∨ o = 21 ∨ o = 24 ∨ o = 25 then 1 else 0
theorem ng_0 {f0 f1 : Bool} {lk x y y2 y3 : Int} : ngo (it_0 f0 f1 lk x y y2 y3) = 0 := by
  unfold it_0
  simp only [ngo_app, ngo_m, ngo_L, ngo_G, ngo_N]
theorem nn_0 {f0 f1 : Bool} {lk x y y2 y3 : Int} : nno (it_0 f0 f1 lk x y y2 y3) = 0 := by
  unfold it_0
  simp only [nno_app, nno_m, nno_L, nno_G, nno_N]
theorem ln_0 {f0 f1 : Bool} {lk x y y2 y3 : Int} : (it_0 f0 f1 lk x y y2 y3).length ≤ 25 := by
  unfold it_0
  have q0 := gl_b (f := f0)
  have q1 := gl_b (f := f1)
  have q2 := len_co (r := 0) (v := x)
  have q3 := len_co (r := 1) (v := y)
  have q4 := len_co (r := 3) (v := 8192 - y2)
  simp only [List.length_append, List.length_map, len_L, len_G, len_N, len_on, len_off, len_pl]
  omega
theorem lm_0 {f0 f1 f2 f3 : Bool} {lk x y y2 y3 lk2 : Int} (h0 : f0 = true → f2 = true) (h1 : f1 = true → f3 = true) : (it_0 f0 f1 lk x y y2 y3).length ≤ (it_0 f2 f3 lk2 x y y2 y3).length := by
  unfold it_0
  have q0 := gl_m h0
  have q1 := gl_m h1
  simp only [List.length_append, List.length_map, len_L, len_G, len_N, len_on, len_off, len_pl]
  omega
theorem kO_0 {F : Nat → Bool} {k : Nat} {f0 f1 : Bool} {lk x y y2 y3 : Int} : kO F (it_0 f0 f1 lk x y y2 y3) k := by
  unfold it_0
  simp only [kO_app, kO_m, kO_L, kO_G, kO_N, ngo_app, ngo_m, ngo_L, ngo_G, ngo_N, true_and, and_true, Nat.add_zero, Nat.zero_add]
theorem wf_0 {f0 f1 : Bool} {lk x y y2 y3 : Int} : Wf (it_0 f0 f1 lk x y y2 y3) := Wf_app (Wf_app (Wf_app (Wf_app (Wf_app (Wf_app (Wf_app (Wf_app (Wf_m _) (Wf_L)) (Wf_L)) (Wf_L)) (Wf_L)) (Wf_L)) (Wf_L)) (Wf_L)) (Wf_L)
theorem ng_1 {f0 f1 : Bool} {lk x y y2 y3 : Int} : ngo (it_1 f0 f1 lk x y y2 y3) = 0 := by
  unfold it_1
  simp only [ngo_app, ngo_m, ngo_L, ngo_G, ngo_N]
theorem nn_1 {f0 f1 : Bool} {lk x y y2 y3 : Int} : nno (it_1 f0 f1 lk x y y2 y3) = 0 := by
  unfold it_1
  simp only [nno_app, nno_m, nno_L, nno_G, nno_N]
theorem ln_1 {f0 f1 : Bool} {lk x y y2 y3 : Int} : (it_1 f0 f1 lk x y y2 y3).length ≤ 25 := by
  unfold it_1
  have q0 := gl_b (f := f0)
  have q1 := gl_b (f := f1)
  have q2 := len_co (r := 0) (v := x)
  have q3 := len_co (r := 1) (v := y)
  have q4 := len_co (r := 3) (v := 8192 - y2)
  simp only [List.length_append, List.length_map, len_L, len_G, len_N, len_on, len_off, len_pl]
  omega
theorem lm_1 {f0 f1 f2 f3 : Bool} {lk x y y2 y3 lk2 : Int} (h0 : f0 = true → f2 = true) (h1 : f1 = true → f3 = true) : (it_1 f0 f1 lk x y y2 y3).length ≤ (it_1 f2 f3 lk2 x y y2 y3).length := by
  unfold it_1
  have q0 := gl_m h0
  have q1 := gl_m h1
  simp only [List.length_append, List.length_map, len_L, len_G, len_N, len_on, len_off, len_pl]
  omega
theorem kO_1 {F : Nat → Bool} {k : Nat} {f0 f1 : Bool} {lk x y y2 y3 : Int} : kO F (it_1 f0 f1 lk x y y2 y3) k := by
  unfold it_1
  simp only [kO_app, kO_m, kO_L, kO_G, kO_N, ngo_app, ngo_m, ngo_L, ngo_G, ngo_N, true_and, and_true, Nat.add_zero, Nat.zero_add]
theorem wf_1 {f0 f1 : Bool} {lk x y y2 y3 : Int} : Wf (it_1 f0 f1 lk x y y2 y3) := Wf_app (Wf_m _) (Wf_m _)
theorem ng_2 {f0 f1 : Bool} {lk x y y2 y3 : Int} : ngo (it_2 f0 f1 lk x y y2 y3) = 0 := by
  unfold it_2
  simp only [ngo_app, ngo_m, ngo_L, ngo_G, ngo_N]
theorem nn_2 {f0 f1 : Bool} {lk x y y2 y3 : Int} : nno (it_2 f0 f1 lk x y y2 y3) = 0 := by
  unfold it_2
  simp only [nno_app, nno_m, nno_L, nno_G, nno_N]
theorem ln_2 {f0 f1 : Bool} {lk x y y2 y3 : Int} : (it_2 f0 f1 lk x y y2 y3).length ≤ 25 := by
  unfold it_2
  have q0 := gl_b (f := f0)
  have q1 := gl_b (f := f1)
  have q2 := len_co (r := 0) (v := x)
  have q3 := len_co (r := 1) (v := y)
  have q4 := len_co (r := 3) (v := 8192 - y2)
  simp only [List.length_append, List.length_map, len_L, len_G, len_N, len_on, len_off, len_pl]
  omega
theorem lm_2 {f0 f1 f2 f3 : Bool} {lk x y y2 y3 lk2 : Int} (h0 : f0 = true → f2 = true) (h1 : f1 = true → f3 = true) : (it_2 f0 f1 lk x y y2 y3).length ≤ (it_2 f2 f3 lk2 x y y2 y3).length := by
  unfold it_2
  have q0 := gl_m h0
  have q1 := gl_m h1
  simp only [List.length_append, List.length_map, len_L, len_G, len_N, len_on, len_off, len_pl]
  omega
theorem kO_2 {F : Nat → Bool} {k : Nat} {f0 f1 : Bool} {lk x y y2 y3 : Int} : kO F (it_2 f0 f1 lk x y y2 y3) k := by
  unfold it_2
  simp only [kO_app, kO_m, kO_L, kO_G, kO_N, ngo_app, ngo_m, ngo_L, ngo_G, ngo_N, true_and, and_true, Nat.add_zero, Nat.zero_add]
theorem wf_2 {f0 f1 : Bool} {lk x y y2 y3 : Int} : Wf (it_2 f0 f1 lk x y y2 y3) := Wf_app (Wf_L) (Wf_m _)
theorem ng_3 {f0 f1 : Bool} {lk x y y2 y3 : Int} : ngo (it_3 f0 f1 lk x y y2 y3) = 0 := by
  unfold it_3
  simp only [ngo_app, ngo_m, ngo_L, ngo_G, ngo_N]
theorem nn_3 {f0 f1 : Bool} {lk x y y2 y3 : Int} : nno (it_3 f0 f1 lk x y y2 y3) = 0 := by
  unfold it_3
  simp only [nno_app, nno_m, nno_L, nno_G, nno_N]
theorem ln_3 {f0 f1 : Bool} {lk x y y2 y3 : Int} : (it_3 f0 f1 lk x y y2 y3).length ≤ 25 := by
  unfold it_3
  have q0 := gl_b (f := f0)
  have q1 := gl_b (f := f1)
  have q2 := len_co (r := 0) (v := x)
  have q3 := len_co (r := 1) (v := y)
  have q4 := len_co (r := 3) (v := 8192 - y2)
  simp only [List.length_append, List.length_map, len_L, len_G, len_N, len_on, len_off, len_pl]
  omega
theorem lm_3 {f0 f1 f2 f3 : Bool} {lk x y y2 y3 lk2 : Int} (h0 : f0 = true → f2 = true) (h1 : f1 = true → f3 = true) : (it_3 f0 f1 lk x y y2 y3).length ≤ (it_3 f2 f3 lk2 x y y2 y3).length := by
  unfold it_3
  have q0 := gl_m h0
  have q1 := gl_m h1
  simp only [List.length_append, List.length_map, len_L, len_G, len_N, len_on, len_off, len_pl]
  omega
theorem kO_3 {F : Nat → Bool} {k : Nat} {f0 f1 : Bool} {lk x y y2 y3 : Int} : kO F (it_3 f0 f1 lk x y y2 y3) k := by
  unfold it_3
  simp only [kO_app, kO_m, kO_L, kO_G, kO_N, ngo_app, ngo_m, ngo_L, ngo_G, ngo_N, true_and, and_true, Nat.add_zero, Nat.zero_add]
theorem wf_3 {f0 f1 : Bool} {lk x y y2 y3 : Int} : Wf (it_3 f0 f1 lk x y y2 y3) := Wf_app (Wf_m _) (Wf_L)
theorem ng_4 {f0 f1 : Bool} {lk x y y2 y3 : Int} : ngo (it_4 f0 f1 lk x y y2 y3) = 0 := by
  unfold it_4
  simp only [ngo_app, ngo_m, ngo_L, ngo_G, ngo_N]
theorem nn_4 {f0 f1 : Bool} {lk x y y2 y3 : Int} : nno (it_4 f0 f1 lk x y y2 y3) = 1 := by
  unfold it_4
  simp only [nno_app, nno_m, nno_L, nno_G, nno_N]
theorem ln_4 {f0 f1 : Bool} {lk x y y2 y3 : Int} : (it_4 f0 f1 lk x y y2 y3).length ≤ 25 := by
  unfold it_4
  have q0 := gl_b (f := f0)
  have q1 := gl_b (f := f1)
  have q2 := len_co (r := 0) (v := x)
  have q3 := len_co (r := 1) (v := y)
  have q4 := len_co (r := 3) (v := 8192 - y2)
  simp only [List.length_append, List.length_map, len_L, len_G, len_N, len_on, len_off, len_pl]
  omega
theorem lm_4 {f0 f1 f2 f3 : Bool} {lk x y y2 y3 lk2 : Int} (h0 : f0 = true → f2 = true) (h1 : f1 = true → f3 = true) : (it_4 f0 f1 lk x y y2 y3).length ≤ (it_4 f2 f3 lk2 x y y2 y3).length := by
  unfold it_4
  have q0 := gl_m h0
  have q1 := gl_m h1
  simp only [List.length_append, List.length_map, len_L, len_G, len_N, len_on, len_off, len_pl]
  omega
theorem kO_4 {F : Nat → Bool} {k : Nat} {f0 f1 : Bool} {lk x y y2 y3 : Int} : kO F (it_4 f0 f1 lk x y y2 y3) k := by
  unfold it_4
  simp only [kO_app, kO_m, kO_L, kO_G, kO_N, ngo_app, ngo_m, ngo_L, ngo_G, ngo_N, true_and, and_true, Nat.add_zero, Nat.zero_add]
theorem wf_4 {f0 f1 : Bool} {lk x y y2 y3 : Int} : Wf (it_4 f0 f1 lk x y y2 y3) := Wf_app (Wf_app (Wf_N (by decide) (by decide)) (Wf_L)) (Wf_m _)
theorem ng_5 {f0 f1 : Bool} {lk x y y2 y3 : Int} : ngo (it_5 f0 f1 lk x y y2 y3) = 0 := by
  unfold it_5
  simp only [ngo_app, ngo_m, ngo_L, ngo_G, ngo_N]
theorem nn_5 {f0 f1 : Bool} {lk x y y2 y3 : Int} : nno (it_5 f0 f1 lk x y y2 y3) = 1 := by
  unfold it_5
  simp only [nno_app, nno_m, nno_L, nno_G, nno_N]
theorem ln_5 {f0 f1 : Bool} {lk x y y2 y3 : Int} : (it_5 f0 f1 lk x y y2 y3).length ≤ 25 := by
  unfold it_5
  have q0 := gl_b (f := f0)
  have q1 := gl_b (f := f1)
  have q2 := len_co (r := 0) (v := x)
  have q3 := len_co (r := 1) (v := y)
  have q4 := len_co (r := 3) (v := 8192 - y2)
  simp only [List.length_append, List.length_map, len_L, len_G, len_N, len_on, len_off, len_pl]
  omega
theorem lm_5 {f0 f1 f2 f3 : Bool} {lk x y y2 y3 lk2 : Int} (h0 : f0 = true → f2 = true) (h1 : f1 = true → f3 = true) : (it_5 f0 f1 lk x y y2 y3).length ≤ (it_5 f2 f3 lk2 x y y2 y3).length := by
  unfold it_5
  have q0 := gl_m h0
  have q1 := gl_m h1
  simp only [List.length_append, List.length_map, len_L, len_G, len_N, len_on, len_off, len_pl]
  omega
theorem kO_5 {F : Nat → Bool} {k : Nat} {f0 f1 : Bool} {lk x y y2 y3 : Int} : kO F (it_5 f0 f1 lk x y y2 y3) k := by
  unfold it_5
  simp only [kO_app, kO_m, kO_L, kO_G, kO_N, ngo_app, ngo_m, ngo_L, ngo_G, ngo_N, true_and, and_true, Nat.add_zero, Nat.zero_add]
theorem wf_5 {f0 f1 : Bool} {lk x y y2 y3 : Int} : Wf (it_5 f0 f1 lk x y y2 y3) := Wf_app (Wf_app (Wf_m _) (Wf_N (by decide) (by decide))) (Wf_L)
theorem ng_6 {f0 f1 : Bool} {lk x y y2 y3 : Int} : ngo (it_6 f0 f1 lk x y y2 y3) = 1 := by
  unfold it_6
  simp only [ngo_app, ngo_m, ngo_L, ngo_G, ngo_N]
theorem nn_6 {f0 f1 : Bool} {lk x y y2 y3 : Int} : nno (it_6 f0 f1 lk x y y2 y3) = 1 := by
  unfold it_6
  simp only [nno_app, nno_m, nno_L, nno_G, nno_N]
theorem ln_6 {f0 f1 : Bool} {lk x y y2 y3 : Int} : (it_6 f0 f1 lk x y y2 y3).length ≤ 25 := by
  unfold it_6
  have q0 := gl_b (f := f0)
  have q1 := gl_b (f := f1)
  have q2 := len_co (r := 0) (v := x)
  have q3 := len_co (r := 1) (v := y)
  have q4 := len_co (r := 3) (v := 8192 - y2)
  simp only [List.length_append, List.length_map, len_L, len_G, len_N, len_on, len_off, len_pl]
  omega
theorem lm_6 {f0 f1 f2 f3 : Bool} {lk x y y2 y3 lk2 : Int} (h0 : f0 = true → f2 = true) (h1 : f1 = true → f3 = true) : (it_6 f0 f1 lk x y y2 y3).length ≤ (it_6 f2 f3 lk2 x y y2 y3).length := by
  unfold it_6
  have q0 := gl_m h0
  have q1 := gl_m h1
  simp only [List.length_append, List.length_map, len_L, len_G, len_N, len_on, len_off, len_pl]
  omega
theorem kO_6 {F : Nat → Bool} {k : Nat} {f0 f1 : Bool} {lk x y y2 y3 : Int} (h0 : F k = f0) : kO F (it_6 f0 f1 lk x y y2 y3) k := by
  unfold it_6
  simp only [kO_app, kO_m, kO_L, kO_G, kO_N, ngo_app, ngo_m, ngo_L, ngo_G, ngo_N, true_and, and_true, Nat.add_zero, Nat.zero_add]
  exact h0
theorem wf_6 {f0 f1 : Bool} {lk x y y2 y3 : Int} : Wf (it_6 f0 f1 lk x y y2 y3) := Wf_app (Wf_app (Wf_app (Wf_app (Wf_app (Wf_app (Wf_app (Wf_app (Wf_app (Wf_app (Wf_app (Wf_m _) (Wf_m _)) (Wf_L)) (Wf_L)) (Wf_L)) (Wf_L)) (Wf_L)) (Wf_G)) (Wf_N (by decide) (by decide))) (Wf_L)) (Wf_L)) (Wf_m _)
theorem ng_7 {f0 f1 : Bool} {lk x y y2 y3 : Int} : ngo (it_7 f0 f1 lk x y y2 y3) = 1 := by
  unfold it_7
  simp only [ngo_app, ngo_m, ngo_L, ngo_G, ngo_N]
theorem nn_7 {f0 f1 : Bool} {lk x y y2 y3 : Int} : nno (it_7 f0 f1 lk x y y2 y3) = 1 := by
  unfold it_7
  simp only [nno_app, nno_m, nno_L, nno_G, nno_N]
theorem ln_7 {f0 f1 : Bool} {lk x y y2 y3 : Int} : (it_7 f0 f1 lk x y y2 y3).length ≤ 25 := by
  unfold it_7
  have q0 := gl_b (f := f0)
  have q1 := gl_b (f := f1)
  have q2 := len_co (r := 0) (v := x)
  have q3 := len_co (r := 1) (v := y)
  have q4 := len_co (r := 3) (v := 8192 - y2)
  simp only [List.length_append, List.length_map, len_L, len_G, len_N, len_on, len_off, len_pl]
  omega
theorem lm_7 {f0 f1 f2 f3 : Bool} {lk x y y2 y3 lk2 : Int} (h0 : f0 = true → f2 = true) (h1 : f1 = true → f3 = true) : (it_7 f0 f1 lk x y y2 y3).length ≤ (it_7 f2 f3 lk2 x y y2 y3).length := by
  unfold it_7
  have q0 := gl_m h0
  have q1 := gl_m h1
  simp only [List.length_append, List.length_map, len_L, len_G, len_N, len_on, len_off, len_pl]
  omega
theorem kO_7 {F : Nat → Bool} {k : Nat} {f0 f1 : Bool} {lk x y y2 y3 : Int} (h0 : F k = f0) : kO F (it_7 f0 f1 lk x y y2 y3) k := by
  unfold it_7
  simp only [kO_app, kO_m, kO_L, kO_G, kO_N, ngo_app, ngo_m, ngo_L, ngo_G, ngo_N, true_and, and_true, Nat.add_zero, Nat.zero_add]
  exact h0
theorem wf_7 {f0 f1 : Bool} {lk x y y2 y3 : Int} : Wf (it_7 f0 f1 lk x y y2 y3) := Wf_app (Wf_app (Wf_app (Wf_app (Wf_app (Wf_app (Wf_app (Wf_app (Wf_app (Wf_app (Wf_app (Wf_m _) (Wf_m _)) (Wf_m _)) (Wf_L)) (Wf_L)) (Wf_L)) (Wf_L)) (Wf_L)) (Wf_G)) (Wf_N (by decide) (by decide))) (Wf_L)) (Wf_L)
theorem ng_8 {f0 f1 : Bool} {lk x y y2 y3 : Int} : ngo (it_8 f0 f1 lk x y y2 y3) = 1 := by
  unfold it_8
  simp only [ngo_app, ngo_m, ngo_L, ngo_G, ngo_N]
theorem nn_8 {f0 f1 : Bool} {lk x y y2 y3 : Int} : nno (it_8 f0 f1 lk x y y2 y3) = 0 := by
  unfold it_8
  simp only [nno_app, nno_m, nno_L, nno_G, nno_N]
theorem ln_8 {f0 f1 : Bool} {lk x y y2 y3 : Int} : (it_8 f0 f1 lk x y y2 y3).length ≤ 25 := by
  unfold it_8
  have q0 := gl_b (f := f0)
  have q1 := gl_b (f := f1)
  have q2 := len_co (r := 0) (v := x)
  have q3 := len_co (r := 1) (v := y)
  have q4 := len_co (r := 3) (v := 8192 - y2)
  simp only [List.length_append, List.length_map, len_L, len_G, len_N, len_on, len_off, len_pl]
  omega
theorem lm_8 {f0 f1 f2 f3 : Bool} {lk x y y2 y3 lk2 : Int} (h0 : f0 = true → f2 = true) (h1 : f1 = true → f3 = true) : (it_8 f0 f1 lk x y y2 y3).length ≤ (it_8 f2 f3 lk2 x y y2 y3).length := by
  unfold it_8
  have q0 := gl_m h0
  have q1 := gl_m h1
  simp only [List.length_append, List.length_map, len_L, len_G, len_N, len_on, len_off, len_pl]
  omega
theorem kO_8 {F : Nat → Bool} {k : Nat} {f0 f1 : Bool} {lk x y y2 y3 : Int} (h0 : F k = f0) : kO F (it_8 f0 f1 lk x y y2 y3) k := by
  unfold it_8
  simp only [kO_app, kO_m, kO_L, kO_G, kO_N, ngo_app, ngo_m, ngo_L, ngo_G, ngo_N, true_and, and_true, Nat.add_zero, Nat.zero_add]
  exact h0
theorem wf_8 {f0 f1 : Bool} {lk x y y2 y3 : Int} : Wf (it_8 f0 f1 lk x y y2 y3) := Wf_app (Wf_app (Wf_app (Wf_app (Wf_app (Wf_app (Wf_app (Wf_app (Wf_app (Wf_app (Wf_m _) (Wf_m _)) (Wf_L)) (Wf_L)) (Wf_L)) (Wf_L)) (Wf_L)) (Wf_L)) (Wf_L)) (Wf_G)) (Wf_m _)
theorem ng_9 {f0 f1 : Bool} {lk x y y2 y3 : Int} : ngo (it_9 f0 f1 lk x y y2 y3) = 1 := by
  unfold it_9
  simp only [ngo_app, ngo_m, ngo_L, ngo_G, ngo_N]
theorem nn_9 {f0 f1 : Bool} {lk x y y2 y3 : Int} : nno (it_9 f0 f1 lk x y y2 y3) = 0 := by
  unfold it_9
  simp only [nno_app, nno_m, nno_L, nno_G, nno_N]
theorem ln_9 {f0 f1 : Bool} {lk x y y2 y3 : Int} : (it_9 f0 f1 lk x y y2 y3).length ≤ 25 := by
  unfold it_9
  have q0 := gl_b (f := f0)
  have q1 := gl_b (f := f1)
  have q2 := len_co (r := 0) (v := x)
  have q3 := len_co (r := 1) (v := y)
  have q4 := len_co (r := 3) (v := 8192 - y2)
  simp only [List.length_append, List.length_map, len_L, len_G, len_N, len_on, len_off, len_pl]
  omega
theorem lm_9 {f0 f1 f2 f3 : Bool} {lk x y y2 y3 lk2 : Int} (h0 : f0 = true → f2 = true) (h1 : f1 = true → f3 = true) : (it_9 f0 f1 lk x y y2 y3).length ≤ (it_9 f2 f3 lk2 x y y2 y3).length := by
  unfold it_9
  have q0 := gl_m h0
  have q1 := gl_m h1
  simp only [List.length_append, List.length_map, len_L, len_G, len_N, len_on, len_off, len_pl]
  omega
theorem kO_9 {F : Nat → Bool} {k : Nat} {f0 f1 : Bool} {lk x y y2 y3 : Int} (h0 : F k = f0) : kO F (it_9 f0 f1 lk x y y2 y3) k := by
  unfold it_9
  simp only [kO_app, kO_m, kO_L, kO_G, kO_N, ngo_app, ngo_m, ngo_L, ngo_G, ngo_N, true_and, and_true, Nat.add_zero, Nat.zero_add]
  exact h0
theorem wf_9 {f0 f1 : Bool} {lk x y y2 y3 : Int} : Wf (it_9 f0 f1 lk x y y2 y3) := Wf_app (Wf_app (Wf_app (Wf_app (Wf_app (Wf_app (Wf_app (Wf_app (Wf_app (Wf_app (Wf_m _) (Wf_m _)) (Wf_L)) (Wf_L)) (Wf_L)) (Wf_L)) (Wf_L)) (Wf_L)) (Wf_L)) (Wf_G)) (Wf_m _)
theorem ng_10 {f0 f1 : Bool} {lk x y y2 y3 : Int} : ngo (it_10 f0 f1 lk x y y2 y3) = 1 := by
  unfold it_10
  simp only [ngo_app, ngo_m, ngo_L, ngo_G, ngo_N]
theorem nn_10 {f0 f1 : Bool} {lk x y y2 y3 : Int} : nno (it_10 f0 f1 lk x y y2 y3) = 0 := by
  unfold it_10
  simp only [nno_app, nno_m, nno_L, nno_G, nno_N]
theorem ln_10 {f0 f1 : Bool} {lk x y y2 y3 : Int} : (it_10 f0 f1 lk x y y2 y3).length ≤ 25 := by
  unfold it_10
  have q0 := gl_b (f := f0)
  have q1 := gl_b (f := f1)
  have q2 := len_co (r := 0) (v := x)
  have q3 := len_co (r := 1) (v := y)
  have q4 := len_co (r := 3) (v := 8192 - y2)
  simp only [List.length_append, List.length_map, len_L, len_G, len_N, len_on, len_off, len_pl]
  omega
theorem lm_10 {f0 f1 f2 f3 : Bool} {lk x y y2 y3 lk2 : Int} (h0 : f0 = true → f2 = true) (h1 : f1 = true → f3 = true) : (it_10 f0 f1 lk x y y2 y3).length ≤ (it_10 f2 f3 lk2 x y y2 y3).length := by
  unfold it_10
  have q0 := gl_m h0
  have q1 := gl_m h1
  simp only [List.length_append, List.length_map, len_L, len_G, len_N, len_on, len_off, len_pl]
  omega
theorem kO_10 {F : Nat → Bool} {k : Nat} {f0 f1 : Bool} {lk x y y2 y3 : Int} (h0 : F k = f0) : kO F (it_10 f0 f1 lk x y y2 y3) k := by
  unfold it_10
  simp only [kO_app, kO_m, kO_L, kO_G, kO_N, ngo_app, ngo_m, ngo_L, ngo_G, ngo_N, true_and, and_true, Nat.add_zero, Nat.zero_add]
  exact h0
theorem wf_10 {f0 f1 : Bool} {lk x y y2 y3 : Int} : Wf (it_10 f0 f1 lk x y y2 y3) := Wf_app (Wf_app (Wf_app (Wf_app (Wf_app (Wf_app (Wf_m _) (Wf_m _)) (Wf_m _)) (Wf_L)) (Wf_L)) (Wf_G)) (Wf_m _)
theorem ng_11 {f0 f1 : Bool} {lk x y y2 y3 : Int} : ngo (it_11 f0 f1 lk x y y2 y3) = 2 := by
  unfold it_11
  simp only [ngo_app, ngo_m, ngo_L, ngo_G, ngo_N]
theorem nn_11 {f0 f1 : Bool} {lk x y y2 y3 : Int} : nno (it_11 f0 f1 lk x y y2 y3) = 0 := by
  unfold it_11
  simp only [nno_app, nno_m, nno_L, nno_G, nno_N]
theorem ln_11 {f0 f1 : Bool} {lk x y y2 y3 : Int} : (it_11 f0 f1 lk x y y2 y3).length ≤ 25 := by
  unfold it_11
  have q0 := gl_b (f := f0)
  have q1 := gl_b (f := f1)
  have q2 := len_co (r := 0) (v := x)
  have q3 := len_co (r := 1) (v := y)
  have q4 := len_co (r := 3) (v := 8192 - y2)
  simp only [List.length_append, List.length_map, len_L, len_G, len_N, len_on, len_off, len_pl]
  omega
theorem lm_11 {f0 f1 f2 f3 : Bool} {lk x y y2 y3 lk2 : Int} (h0 : f0 = true → f2 = true) (h1 : f1 = true → f3 = true) : (it_11 f0 f1 lk x y y2 y3).length ≤ (it_11 f2 f3 lk2 x y y2 y3).length := by
  unfold it_11
  have q0 := gl_m h0
  have q1 := gl_m h1
  simp only [List.length_append, List.length_map, len_L, len_G, len_N, len_on, len_off, len_pl]
  omega
theorem kO_11 {F : Nat → Bool} {k : Nat} {f0 f1 : Bool} {lk x y y2 y3 : Int} (h0 : F k = f0) (h1 : F (k + 1) = f1) : kO F (it_11 f0 f1 lk x y y2 y3) k := by
  unfold it_11
  simp only [kO_app, kO_m, kO_L, kO_G, kO_N, ngo_app, ngo_m, ngo_L, ngo_G, ngo_N, true_and, and_true, Nat.add_zero, Nat.zero_add]
  exact ⟨h0, h1⟩
theorem wf_11 {f0 f1 : Bool} {lk x y y2 y3 : Int} : Wf (it_11 f0 f1 lk x y y2 y3) := Wf_app (Wf_app (Wf_app (Wf_app (Wf_app (Wf_app (Wf_app (Wf_app (Wf_app (Wf_app (Wf_app (Wf_app (Wf_m _) (Wf_m _)) (Wf_m _)) (Wf_L)) (Wf_L)) (Wf_G)) (Wf_L)) (Wf_L)) (Wf_L)) (Wf_L)) (Wf_L)) (Wf_G)) (Wf_m _)
theorem ng_12 {f0 f1 : Bool} {lk x y y2 y3 : Int} : ngo (it_12 f0 f1 lk x y y2 y3) = 1 := by
  unfold it_12
  simp only [ngo_app, ngo_m, ngo_L, ngo_G, ngo_N]
theorem nn_12 {f0 f1 : Bool} {lk x y y2 y3 : Int} : nno (it_12 f0 f1 lk x y y2 y3) = 0 := by
  unfold it_12
  simp only [nno_app, nno_m, nno_L, nno_G, nno_N]
theorem ln_12 {f0 f1 : Bool} {lk x y y2 y3 : Int} : (it_12 f0 f1 lk x y y2 y3).length ≤ 25 := by
  unfold it_12
  have q0 := gl_b (f := f0)
  have q1 := gl_b (f := f1)
  have q2 := len_co (r := 0) (v := x)
  have q3 := len_co (r := 1) (v := y)
  have q4 := len_co (r := 3) (v := 8192 - y2)
  simp only [List.length_append, List.length_map, len_L, len_G, len_N, len_on, len_off, len_pl]
  omega
theorem lm_12 {f0 f1 f2 f3 : Bool} {lk x y y2 y3 lk2 : Int} (h0 : f0 = true → f2 = true) (h1 : f1 = true → f3 = true) : (it_12 f0 f1 lk x y y2 y3).length ≤ (it_12 f2 f3 lk2 x y y2 y3).length := by
  unfold it_12
  have q0 := gl_m h0
  have q1 := gl_m h1
  simp only [List.length_append, List.length_map, len_L, len_G, len_N, len_on, len_off, len_pl]
  omega
theorem kO_12 {F : Nat → Bool} {k : Nat} {f0 f1 : Bool} {lk x y y2 y3 : Int} (h0 : F k = f0) : kO F (it_12 f0 f1 lk x y y2 y3) k := by
  unfold it_12
  simp only [kO_app, kO_m, kO_L, kO_G, kO_N, ngo_app, ngo_m, ngo_L, ngo_G, ngo_N, true_and, and_true, Nat.add_zero, Nat.zero_add]
  exact h0
theorem wf_12 {f0 f1 : Bool} {lk x y y2 y3 : Int} : Wf (it_12 f0 f1 lk x y y2 y3) := Wf_app (Wf_app (Wf_app (Wf_app (Wf_app (Wf_app (Wf_m _) (Wf_m _)) (Wf_m _)) (Wf_L)) (Wf_L)) (Wf_G)) (Wf_m _)
theorem ng_13 {f0 f1 : Bool} {lk x y y2 y3 : Int} : ngo (it_13 f0 f1 lk x y y2 y3) = 1 := by
  unfold it_13
  simp only [ngo_app, ngo_m, ngo_L, ngo_G, ngo_N]
theorem nn_13 {f0 f1 : Bool} {lk x y y2 y3 : Int} : nno (it_13 f0 f1 lk x y y2 y3) = 0 := by
  unfold it_13
  simp only [nno_app, nno_m, nno_L, nno_G, nno_N]
theorem ln_13 {f0 f1 : Bool} {lk x y y2 y3 : Int} : (it_13 f0 f1 lk x y y2 y3).length ≤ 25 := by
  unfold it_13
  have q0 := gl_b (f := f0)
  have q1 := gl_b (f := f1)
  have q2 := len_co (r := 0) (v := x)
  have q3 := len_co (r := 1) (v := y)
  have q4 := len_co (r := 3) (v := 8192 - y2)
  simp only [List.length_append, List.length_map, len_L, len_G, len_N, len_on, len_off, len_pl]
  omega
theorem lm_13 {f0 f1 f2 f3 : Bool} {lk x y y2 y3 lk2 : Int} (h0 : f0 = true → f2 = true) (h1 : f1 = true → f3 = true) : (it_13 f0 f1 lk x y y2 y3).length ≤ (it_13 f2 f3 lk2 x y y2 y3).length := by
  unfold it_13
  have q0 := gl_m h0
  have q1 := gl_m h1
  simp only [List.length_append, List.length_map, len_L, len_G, len_N, len_on, len_off, len_pl]
  omega
theorem kO_13 {F : Nat → Bool} {k : Nat} {f0 f1 : Bool} {lk x y y2 y3 : Int} (h0 : F k = f0) : kO F (it_13 f0 f1 lk x y y2 y3) k := by
  unfold it_13
  simp only [kO_app, kO_m, kO_L, kO_G, kO_N, ngo_app, ngo_m, ngo_L, ngo_G, ngo_N, true_and, and_true, Nat.add_zero, Nat.zero_add]
  exact h0
theorem wf_13 {f0 f1 : Bool} {lk x y y2 y3 : Int} : Wf (it_13 f0 f1 lk x y y2 y3) := Wf_app (Wf_app (Wf_app (Wf_app (Wf_app (Wf_app (Wf_app (Wf_app (Wf_app (Wf_app (Wf_m _) (Wf_L)) (Wf_L)) (Wf_L)) (Wf_L)) (Wf_L)) (Wf_L)) (Wf_L)) (Wf_L)) (Wf_G)) (Wf_m _)
theorem ng_15 {f0 f1 : Bool} {lk x y y2 y3 : Int} : ngo (it_15 f0 f1 lk x y y2 y3) = 1 := by
  unfold it_15
  simp only [ngo_app, ngo_m, ngo_L, ngo_G, ngo_N]
theorem nn_15 {f0 f1 : Bool} {lk x y y2 y3 : Int} : nno (it_15 f0 f1 lk x y y2 y3) = 0 := by
  unfold it_15
  simp only [nno_app, nno_m, nno_L, nno_G, nno_N]
theorem ln_15 {f0 f1 : Bool} {lk x y y2 y3 : Int} : (it_15 f0 f1 lk x y y2 y3).length ≤ 25 := by
  unfold it_15
  have q0 := gl_b (f := f0)
  have q1 := gl_b (f := f1)
  have q2 := len_co (r := 0) (v := x)
  have q3 := len_co (r := 1) (v := y)
  have q4 := len_co (r := 3) (v := 8192 - y2)
  simp only [List.length_append, List.length_map, len_L, len_G, len_N, len_on, len_off, len_pl]
  omega
theorem lm_15 {f0 f1 f2 f3 : Bool} {lk x y y2 y3 lk2 : Int} (h0 : f0 = true → f2 = true) (h1 : f1 = true → f3 = true) : (it_15 f0 f1 lk x y y2 y3).length ≤ (it_15 f2 f3 lk2 x y y2 y3).length := by
  unfold it_15
  have q0 := gl_m h0
  have q1 := gl_m h1
  simp only [List.length_append, List.length_map, len_L, len_G, len_N, len_on, len_off, len_pl]
  omega
theorem kO_15 {F : Nat → Bool} {k : Nat} {f0 f1 : Bool} {lk x y y2 y3 : Int} (h0 : F k = f0) : kO F (it_15 f0 f1 lk x y y2 y3) k := by
  unfold it_15
  simp only [kO_app, kO_m, kO_L, kO_G, kO_N, ngo_app, ngo_m, ngo_L, ngo_G, ngo_N, true_and, and_true, Nat.add_zero, Nat.zero_add]
  exact h0
theorem wf_15 {f0 f1 : Bool} {lk x y y2 y3 : Int} : Wf (it_15 f0 f1 lk x y y2 y3) := Wf_G
theorem ng_16 {f0 f1 : Bool} {lk x y y2 y3 : Int} : ngo (it_16 f0 f1 lk x y y2 y3) = 1 := by
  unfold it_16
  simp only [ngo_app, ngo_m, ngo_L, ngo_G, ngo_N]
theorem nn_16 {f0 f1 : Bool} {lk x y y2 y3 : Int} : nno (it_16 f0 f1 lk x y y2 y3) = 0 := by
  unfold it_16
  simp only [nno_app, nno_m, nno_L, nno_G, nno_N]
theorem ln_16 {f0 f1 : Bool} {lk x y y2 y3 : Int} : (it_16 f0 f1 lk x y y2 y3).length ≤ 25 := by
  unfold it_16
  have q0 := gl_b (f := f0)
  have q1 := gl_b (f := f1)
  have q2 := len_co (r := 0) (v := x)
  have q3 := len_co (r := 1) (v := y)
  have q4 := len_co (r := 3) (v := 8192 - y2)
  simp only [List.length_append, List.length_map, len_L, len_G, len_N, len_on, len_off, len_pl]
  omega
theorem lm_16 {f0 f1 f2 f3 : Bool} {lk x y y2 y3 lk2 : Int} (h0 : f0 = true → f2 = true) (h1 : f1 = true → f3 = true) : (it_16 f0 f1 lk x y y2 y3).length ≤ (it_16 f2 f3 lk2 x y y2 y3).length := by
  unfold it_16
  have q0 := gl_m h0
  have q1 := gl_m h1
  simp only [List.length_append, List.length_map, len_L, len_G, len_N, len_on, len_off, len_pl]
  omega
theorem kO_16 {F : Nat → Bool} {k : Nat} {f0 f1 : Bool} {lk x y y2 y3 : Int} (h0 : F k = f0) : kO F (it_16 f0 f1 lk x y y2 y3) k := by
  unfold it_16
  simp only [kO_app, kO_m, kO_L, kO_G, kO_N, ngo_app, ngo_m, ngo_L, ngo_G, ngo_N, true_and, and_true, Nat.add_zero, Nat.zero_add]
  exact h0
theorem wf_16 {f0 f1 : Bool} {lk x y y2 y3 : Int} : Wf (it_16 f0 f1 lk x y y2 y3) := Wf_app (Wf_app (Wf_app (Wf_m _) (Wf_L)) (Wf_L)) (Wf_G)
theorem ng_17 {f0 f1 : Bool} {lk x y y2 y3 : Int} : ngo (it_17 f0 f1 lk x y y2 y3) = 1 := by
  unfold it_17
  simp only [ngo_app, ngo_m, ngo_L, ngo_G, ngo_N]
theorem nn_17 {f0 f1 : Bool} {lk x y y2 y3 : Int} : nno (it_17 f0 f1 lk x y y2 y3) = 1 := by
  unfold it_17
  simp only [nno_app, nno_m, nno_L, nno_G, nno_N]
theorem ln_17 {f0 f1 : Bool} {lk x y y2 y3 : Int} : (it_17 f0 f1 lk x y y2 y3).length ≤ 25 := by
  unfold it_17
  have q0 := gl_b (f := f0)
  have q1 := gl_b (f := f1)
  have q2 := len_co (r := 0) (v := x)
  have q3 := len_co (r := 1) (v := y)
  have q4 := len_co (r := 3) (v := 8192 - y2)
  simp only [List.length_append, List.length_map, len_L, len_G, len_N, len_on, len_off, len_pl]
  omega
theorem lm_17 {f0 f1 f2 f3 : Bool} {lk x y y2 y3 lk2 : Int} (h0 : f0 = true → f2 = true) (h1 : f1 = true → f3 = true) : (it_17 f0 f1 lk x y y2 y3).length ≤ (it_17 f2 f3 lk2 x y y2 y3).length := by
  unfold it_17
  have q0 := gl_m h0
  have q1 := gl_m h1
  simp only [List.length_append, List.length_map, len_L, len_G, len_N, len_on, len_off, len_pl]
  omega
theorem kO_17 {F : Nat → Bool} {k : Nat} {f0 f1 : Bool} {lk x y y2 y3 : Int} (h0 : F k = f0) : kO F (it_17 f0 f1 lk x y y2 y3) k := by
  unfold it_17
  simp only [kO_app, kO_m, kO_L, kO_G, kO_N, ngo_app, ngo_m, ngo_L, ngo_G, ngo_N, true_and, and_true, Nat.add_zero, Nat.zero_add]
  exact h0
theorem wf_17 {f0 f1 : Bool} {lk x y y2 y3 : Int} : Wf (it_17 f0 f1 lk x y y2 y3) := Wf_app (Wf_app (Wf_app (Wf_app (Wf_N (by decide) (by decide)) (Wf_L)) (Wf_L)) (Wf_G)) (Wf_m _)
theorem ng_18 {f0 f1 : Bool} {lk x y y2 y3 : Int} : ngo (it_18 f0 f1 lk x y y2 y3) = 0 := by
  unfold it_18
  simp only [ngo_app, ngo_m, ngo_L, ngo_G, ngo_N]
theorem nn_18 {f0 f1 : Bool} {lk x y y2 y3 : Int} : nno (it_18 f0 f1 lk x y y2 y3) = 0 := by
  unfold it_18
  simp only [nno_app, nno_m, nno_L, nno_G, nno_N]
theorem ln_18 {f0 f1 : Bool} {lk x y y2 y3 : Int} : (it_18 f0 f1 lk x y y2 y3).length ≤ 25 := by
  unfold it_18
  have q0 := gl_b (f := f0)
  have q1 := gl_b (f := f1)
  have q2 := len_co (r := 0) (v := x)
  have q3 := len_co (r := 1) (v := y)
  have q4 := len_co (r := 3) (v := 8192 - y2)
  simp only [List.length_append, List.length_map, len_L, len_G, len_N, len_on, len_off, len_pl]
  omega
theorem lm_18 {f0 f1 f2 f3 : Bool} {lk x y y2 y3 lk2 : Int} (h0 : f0 = true → f2 = true) (h1 : f1 = true → f3 = true) : (it_18 f0 f1 lk x y y2 y3).length ≤ (it_18 f2 f3 lk2 x y y2 y3).length := by
  unfold it_18
  have q0 := gl_m h0
  have q1 := gl_m h1
  simp only [List.length_append, List.length_map, len_L, len_G, len_N, len_on, len_off, len_pl]
  omega
theorem kO_18 {F : Nat → Bool} {k : Nat} {f0 f1 : Bool} {lk x y y2 y3 : Int} : kO F (it_18 f0 f1 lk x y y2 y3) k := by
  unfold it_18
  simp only [kO_app, kO_m, kO_L, kO_G, kO_N, ngo_app, ngo_m, ngo_L, ngo_G, ngo_N, true_and, and_true, Nat.add_zero, Nat.zero_add]
theorem wf_18 {f0 f1 : Bool} {lk x y y2 y3 : Int} : Wf (it_18 f0 f1 lk x y y2 y3) := Wf_L
theorem ng_19 {f0 f1 : Bool} {lk x y y2 y3 : Int} : ngo (it_19 f0 f1 lk x y y2 y3) = 1 := by
  unfold it_19
  simp only [ngo_app, ngo_m, ngo_L, ngo_G, ngo_N]
theorem nn_19 {f0 f1 : Bool} {lk x y y2 y3 : Int} : nno (it_19 f0 f1 lk x y y2 y3) = 0 := by
  unfold it_19
  simp only [nno_app, nno_m, nno_L, nno_G, nno_N]
theorem ln_19 {f0 f1 : Bool} {lk x y y2 y3 : Int} : (it_19 f0 f1 lk x y y2 y3).length ≤ 25 := by
  unfold it_19
  have q0 := gl_b (f := f0)
  have q1 := gl_b (f := f1)
  have q2 := len_co (r := 0) (v := x)
  have q3 := len_co (r := 1) (v := y)
  have q4 := len_co (r := 3) (v := 8192 - y2)
  simp only [List.length_append, List.length_map, len_L, len_G, len_N, len_on, len_off, len_pl]
  omega
theorem lm_19 {f0 f1 f2 f3 : Bool} {lk x y y2 y3 lk2 : Int} (h0 : f0 = true → f2 = true) (h1 : f1 = true → f3 = true) : (it_19 f0 f1 lk x y y2 y3).length ≤ (it_19 f2 f3 lk2 x y y2 y3).length := by
  unfold it_19
  have q0 := gl_m h0
  have q1 := gl_m h1
  simp only [List.length_append, List.length_map, len_L, len_G, len_N, len_on, len_off, len_pl]
  omega
theorem kO_19 {F : Nat → Bool} {k : Nat} {f0 f1 : Bool} {lk x y y2 y3 : Int} (h0 : F k = f0) : kO F (it_19 f0 f1 lk x y y2 y3) k := by
  unfold it_19
  simp only [kO_app, kO_m, kO_L, kO_G, kO_N, ngo_app, ngo_m, ngo_L, ngo_G, ngo_N, true_and, and_true, Nat.add_zero, Nat.zero_add]
  exact h0
theorem wf_19 {f0 f1 : Bool} {lk x y y2 y3 : Int} : Wf (it_19 f0 f1 lk x y y2 y3) := Wf_app (Wf_app (Wf_app (Wf_app (Wf_app (Wf_app (Wf_app (Wf_m _) (Wf_L)) (Wf_L)) (Wf_L)) (Wf_L)) (Wf_G)) (Wf_L)) (Wf_m _)
theorem ng_20 {f0 f1 : Bool} {lk x y y2 y3 : Int} : ngo (it_20 f0 f1 lk x y y2 y3) = 0 := by
  unfold it_20
  simp only [ngo_app, ngo_m, ngo_L, ngo_G, ngo_N]
theorem nn_20 {f0 f1 : Bool} {lk x y y2 y3 : Int} : nno (it_20 f0 f1 lk x y y2 y3) = 0 := by
  unfold it_20
  simp only [nno_app, nno_m, nno_L, nno_G, nno_N]
theorem ln_20 {f0 f1 : Bool} {lk x y y2 y3 : Int} : (it_20 f0 f1 lk x y y2 y3).length ≤ 25 := by
  unfold it_20
  have q0 := gl_b (f := f0)
  have q1 := gl_b (f := f1)
  have q2 := len_co (r := 0) (v := x)
  have q3 := len_co (r := 1) (v := y)
  have q4 := len_co (r := 3) (v := 8192 - y2)
  simp only [List.length_append, List.length_map, len_L, len_G, len_N, len_on, len_off, len_pl]
  omega
theorem lm_20 {f0 f1 f2 f3 : Bool} {lk x y y2 y3 lk2 : Int} (h0 : f0 = true → f2 = true) (h1 : f1 = true → f3 = true) : (it_20 f0 f1 lk x y y2 y3).length ≤ (it_20 f2 f3 lk2 x y y2 y3).length := by
  unfold it_20
  have q0 := gl_m h0
  have q1 := gl_m h1
  simp only [List.length_append, List.length_map, len_L, len_G, len_N, len_on, len_off, len_pl]
  omega
theorem kO_20 {F : Nat → Bool} {k : Nat} {f0 f1 : Bool} {lk x y y2 y3 : Int} : kO F (it_20 f0 f1 lk x y y2 y3) k := by
  unfold it_20
  simp only [kO_app, kO_m, kO_L, kO_G, kO_N, ngo_app, ngo_m, ngo_L, ngo_G, ngo_N, true_and, and_true, Nat.add_zero, Nat.zero_add]
theorem wf_20 {f0 f1 : Bool} {lk x y y2 y3 : Int} : Wf (it_20 f0 f1 lk x y y2 y3) := Wf_app (Wf_app (Wf_m _) (Wf_m _)) (Wf_L)
theorem ng_21 {f0 f1 : Bool} {lk x y y2 y3 : Int} : ngo (it_21 f0 f1 lk x y y2 y3) = 1 := by
  unfold it_21
  simp only [ngo_app, ngo_m, ngo_L, ngo_G, ngo_N]
theorem nn_21 {f0 f1 : Bool} {lk x y y2 y3 : Int} : nno (it_21 f0 f1 lk x y y2 y3) = 0 := by
  unfold it_21
  simp only [nno_app, nno_m, nno_L, nno_G, nno_N]
theorem ln_21 {f0 f1 : Bool} {lk x y y2 y3 : Int} : (it_21 f0 f1 lk x y y2 y3).length ≤ 25 := by
  unfold it_21
  have q0 := gl_b (f := f0)
  have q1 := gl_b (f := f1)
  have q2 := len_co (r := 0) (v := x)
  have q3 := len_co (r := 1) (v := y)
  have q4 := len_co (r := 3) (v := 8192 - y2)
  simp only [List.length_append, List.length_map, len_L, len_G, len_N, len_on, len_off, len_pl]
  omega
theorem lm_21 {f0 f1 f2 f3 : Bool} {lk x y y2 y3 lk2 : Int} (h0 : f0 = true → f2 = true) (h1 : f1 = true → f3 = true) : (it_21 f0 f1 lk x y y2 y3).length ≤ (it_21 f2 f3 lk2 x y y2 y3).length := by
  unfold it_21
  have q0 := gl_m h0
  have q1 := gl_m h1
  simp only [List.length_append, List.length_map, len_L, len_G, len_N, len_on, len_off, len_pl]
  omega
theorem kO_21 {F : Nat → Bool} {k : Nat} {f0 f1 : Bool} {lk x y y2 y3 : Int} (h0 : F k = f0) : kO F (it_21 f0 f1 lk x y y2 y3) k := by
  unfold it_21
  simp only [kO_app, kO_m, kO_L, kO_G, kO_N, ngo_app, ngo_m, ngo_L, ngo_G, ngo_N, true_and, and_true, Nat.add_zero, Nat.zero_add]
  exact h0
theorem wf_21 {f0 f1 : Bool} {lk x y y2 y3 : Int} : Wf (it_21 f0 f1 lk x y y2 y3) := Wf_app (Wf_L) (Wf_G)
theorem ng_22 {f0 f1 : Bool} {lk x y y2 y3 : Int} : ngo (it_22 f0 f1 lk x y y2 y3) = 0 := by
  unfold it_22
  simp only [ngo_app, ngo_m, ngo_L, ngo_G, ngo_N]
theorem nn_22 {f0 f1 : Bool} {lk x y y2 y3 : Int} : nno (it_22 f0 f1 lk x y y2 y3) = 0 := by
  unfold it_22
  simp only [nno_app, nno_m, nno_L, nno_G, nno_N]
theorem ln_22 {f0 f1 : Bool} {lk x y y2 y3 : Int} : (it_22 f0 f1 lk x y y2 y3).length ≤ 25 := by
  unfold it_22
  have q0 := gl_b (f := f0)
  have q1 := gl_b (f := f1)
  have q2 := len_co (r := 0) (v := x)
  have q3 := len_co (r := 1) (v := y)
  have q4 := len_co (r := 3) (v := 8192 - y2)
  simp only [List.length_append, List.length_map, len_L, len_G, len_N, len_on, len_off, len_pl]
  omega
theorem lm_22 {f0 f1 f2 f3 : Bool} {lk x y y2 y3 lk2 : Int} (h0 : f0 = true → f2 = true) (h1 : f1 = true → f3 = true) : (it_22 f0 f1 lk x y y2 y3).length ≤ (it_22 f2 f3 lk2 x y y2 y3).length := by
  unfold it_22
  have q0 := gl_m h0
  have q1 := gl_m h1
  simp only [List.length_append, List.length_map, len_L, len_G, len_N, len_on, len_off, len_pl]
  omega
theorem kO_22 {F : Nat → Bool} {k : Nat} {f0 f1 : Bool} {lk x y y2 y3 : Int} : kO F (it_22 f0 f1 lk x y y2 y3) k := by
  unfold it_22
  simp only [kO_app, kO_m, kO_L, kO_G, kO_N, ngo_app, ngo_m, ngo_L, ngo_G, ngo_N, true_and, and_true, Nat.add_zero, Nat.zero_add]
theorem wf_22 {f0 f1 : Bool} {lk x y y2 y3 : Int} : Wf (it_22 f0 f1 lk x y y2 y3) := Wf_app (Wf_app (Wf_app (Wf_app (Wf_app (Wf_m _) (Wf_L)) (Wf_L)) (Wf_L)) (Wf_L)) (Wf_L)
theorem ng_23 {f0 f1 : Bool} {lk x y y2 y3 : Int} : ngo (it_23 f0 f1 lk x y y2 y3) = 0 := by
  unfold it_23
  simp only [ngo_app, ngo_m, ngo_L, ngo_G, ngo_N]
theorem nn_23 {f0 f1 : Bool} {lk x y y2 y3 : Int} : nno (it_23 f0 f1 lk x y y2 y3) = 0 := by
  unfold it_23
  simp only [nno_app, nno_m, nno_L, nno_G, nno_N]
theorem ln_23 {f0 f1 : Bool} {lk x y y2 y3 : Int} : (it_23 f0 f1 lk x y y2 y3).length ≤ 25 := by
  unfold it_23
  have q0 := gl_b (f := f0)
  have q1 := gl_b (f := f1)
  have q2 := len_co (r := 0) (v := x)
  have q3 := len_co (r := 1) (v := y)
  have q4 := len_co (r := 3) (v := 8192 - y2)
  simp only [List.length_append, List.length_map, len_L, len_G, len_N, len_on, len_off, len_pl]
  omega
theorem lm_23 {f0 f1 f2 f3 : Bool} {lk x y y2 y3 lk2 : Int} (h0 : f0 = true → f2 = true) (h1 : f1 = true → f3 = true) : (it_23 f0 f1 lk x y y2 y3).length ≤ (it_23 f2 f3 lk2 x y y2 y3).length := by
  unfold it_23
  have q0 := gl_m h0
  have q1 := gl_m h1
  simp only [List.length_append, List.length_map, len_L, len_G, len_N, len_on, len_off, len_pl]
  omega
theorem kO_23 {F : Nat → Bool} {k : Nat} {f0 f1 : Bool} {lk x y y2 y3 : Int} : kO F (it_23 f0 f1 lk x y y2 y3) k := by
  unfold it_23
  simp only [kO_app, kO_m, kO_L, kO_G, kO_N, ngo_app, ngo_m, ngo_L, ngo_G, ngo_N, true_and, and_true, Nat.add_zero, Nat.zero_add]
theorem wf_23 {f0 f1 : Bool} {lk x y y2 y3 : Int} : Wf (it_23 f0 f1 lk x y y2 y3) := Wf_L
theorem ng_24 {f0 f1 : Bool} {lk x y y2 y3 : Int} : ngo (it_24 f0 f1 lk x y y2 y3) = 1 := by
  unfold it_24
  simp only [ngo_app, ngo_m, ngo_L, ngo_G, ngo_N]
theorem nn_24 {f0 f1 : Bool} {lk x y y2 y3 : Int} : nno (it_24 f0 f1 lk x y y2 y3) = 0 := by
  unfold it_24
  simp only [nno_app, nno_m, nno_L, nno_G, nno_N]
theorem ln_24 {f0 f1 : Bool} {lk x y y2 y3 : Int} : (it_24 f0 f1 lk x y y2 y3).length ≤ 25 := by
  unfold it_24
  have q0 := gl_b (f := f0)
  have q1 := gl_b (f := f1)
  have q2 := len_co (r := 0) (v := x)
  have q3 := len_co (r := 1) (v := y)
  have q4 := len_co (r := 3) (v := 8192 - y2)
  simp only [List.length_append, List.length_map, len_L, len_G, len_N, len_on, len_off, len_pl]
  omega
theorem lm_24 {f0 f1 f2 f3 : Bool} {lk x y y2 y3 lk2 : Int} (h0 : f0 = true → f2 = true) (h1 : f1 = true → f3 = true) : (it_24 f0 f1 lk x y y2 y3).length ≤ (it_24 f2 f3 lk2 x y y2 y3).length := by
  unfold it_24
  have q0 := gl_m h0
  have q1 := gl_m h1
  simp only [List.length_append, List.length_map, len_L, len_G, len_N, len_on, len_off, len_pl]
  omega
theorem kO_24 {F : Nat → Bool} {k : Nat} {f0 f1 : Bool} {lk x y y2 y3 : Int} (h0 : F k = f0) : kO F (it_24 f0 f1 lk x y y2 y3) k := by
  unfold it_24
  simp only [kO_app, kO_m, kO_L, kO_G, kO_N, ngo_app, ngo_m, ngo_L, ngo_G, ngo_N, true_and, and_true, Nat.add_zero, Nat.zero_add]
  exact h0
theorem wf_24 {f0 f1 : Bool} {lk x y y2 y3 : Int} : Wf (it_24 f0 f1 lk x y y2 y3) := Wf_app (Wf_app (Wf_app (Wf_app (Wf_app (Wf_L) (Wf_L)) (Wf_L)) (Wf_L)) (Wf_L)) (Wf_G)
theorem ng_25 {f0 f1 : Bool} {lk x y y2 y3 : Int} : ngo (it_25 f0 f1 lk x y y2 y3) = 1 := by
  unfold it_25
  simp only [ngo_app, ngo_m, ngo_L, ngo_G, ngo_N]
theorem nn_25 {f0 f1 : Bool} {lk x y y2 y3 : Int} : nno (it_25 f0 f1 lk x y y2 y3) = 0 := by
  unfold it_25
  simp only [nno_app, nno_m, nno_L, nno_G, nno_N]
theorem ln_25 {f0 f1 : Bool} {lk x y y2 y3 : Int} : (it_25 f0 f1 lk x y y2 y3).length ≤ 25 := by
  unfold it_25
  have q0 := gl_b (f := f0)
  have q1 := gl_b (f := f1)
  have q2 := len_co (r := 0) (v := x)
  have q3 := len_co (r := 1) (v := y)
  have q4 := len_co (r := 3) (v := 8192 - y2)
  simp only [List.length_append, List.length_map, len_L, len_G, len_N, len_on, len_off, len_pl]
  omega
theorem lm_25 {f0 f1 f2 f3 : Bool} {lk x y y2 y3 lk2 : Int} (h0 : f0 = true → f2 = true) (h1 : f1 = true → f3 = true) : (it_25 f0 f1 lk x y y2 y3).length ≤ (it_25 f2 f3 lk2 x y y2 y3).length := by
  unfold it_25
  have q0 := gl_m h0
  have q1 := gl_m h1
  simp only [List.length_append, List.length_map, len_L, len_G, len_N, len_on, len_off, len_pl]
  omega
theorem kO_25 {F : Nat → Bool} {k : Nat} {f0 f1 : Bool} {lk x y y2 y3 : Int} (h0 : F k = f0) : kO F (it_25 f0 f1 lk x y y2 y3) k := by
  unfold it_25
  simp only [kO_app, kO_m, kO_L, kO_G, kO_N, ngo_app, ngo_m, ngo_L, ngo_G, ngo_N, true_and, and_true, Nat.add_zero, Nat.zero_add]
  exact h0
theorem wf_25 {f0 f1 : Bool} {lk x y y2 y3 : Int} : Wf (it_25 f0 f1 lk x y y2 y3) := Wf_G
theorem ng_14_0 {f0 f1 : Bool} {lk x y y2 y3 : Int} : ngo (it_14_0 f0 f1 lk x y y2 y3) = 0 := by
  unfold it_14_0
  simp only [ngo_app, ngo_m, ngo_L, ngo_G, ngo_N]
theorem nn_14_0 {f0 f1 : Bool} {lk x y y2 y3 : Int} : nno (it_14_0 f0 f1 lk x y y2 y3) = 0 := by
  unfold it_14_0
  simp only [nno_app, nno_m, nno_L, nno_G, nno_N]
theorem ln_14_0 {f0 f1 : Bool} {lk x y y2 y3 : Int} : (it_14_0 f0 f1 lk x y y2 y3).length ≤ 25 := by
  unfold it_14_0
  have q0 := gl_b (f := f0)
  have q1 := gl_b (f := f1)
  have q2 := len_co (r := 0) (v := x)
  have q3 := len_co (r := 1) (v := y)
  have q4 := len_co (r := 3) (v := 8192 - y2)
  simp only [List.length_append, List.length_map, len_L, len_G, len_N, len_on, len_off, len_pl]
  omega
theorem lm_14_0 {f0 f1 f2 f3 : Bool} {lk x y y2 y3 lk2 : Int} (h0 : f0 = true → f2 = true) (h1 : f1 = true → f3 = true) : (it_14_0 f0 f1 lk x y y2 y3).length ≤ (it_14_0 f2 f3 lk2 x y y2 y3).length := by
  unfold it_14_0
  have q0 := gl_m h0
  have q1 := gl_m h1
  simp only [List.length_append, List.length_map, len_L, len_G, len_N, len_on, len_off, len_pl]
  omega
theorem kO_14_0 {F : Nat → Bool} {k : Nat} {f0 f1 : Bool} {lk x y y2 y3 : Int} : kO F (it_14_0 f0 f1 lk x y y2 y3) k := by
  unfold it_14_0
  simp only [kO_app, kO_m, kO_L, kO_G, kO_N, ngo_app, ngo_m, ngo_L, ngo_G, ngo_N, true_and, and_true, Nat.add_zero, Nat.zero_add]
theorem wf_14_0 {f0 f1 : Bool} {lk x y y2 y3 : Int} : Wf (it_14_0 f0 f1 lk x y y2 y3) := Wf_app (Wf_app (Wf_app (Wf_m _) (Wf_m _)) (Wf_L)) (Wf_m _)
theorem ng_14_1 {f0 f1 : Bool} {lk x y y2 y3 : Int} : ngo (it_14_1 f0 f1 lk x y y2 y3) = 0 := by
  unfold it_14_1
  simp only [ngo_app, ngo_m, ngo_L, ngo_G, ngo_N]
theorem nn_14_1 {f0 f1 : Bool} {lk x y y2 y3 : Int} : nno (it_14_1 f0 f1 lk x y y2 y3) = 0 := by
  unfold it_14_1
  simp only [nno_app, nno_m, nno_L, nno_G, nno_N]
theorem ln_14_1 {f0 f1 : Bool} {lk x y y2 y3 : Int} : (it_14_1 f0 f1 lk x y y2 y3).length ≤ 25 := by
  unfold it_14_1
  have q0 := gl_b (f := f0)
  have q1 := gl_b (f := f1)
  have q2 := len_co (r := 0) (v := x)
  have q3 := len_co (r := 1) (v := y)
  have q4 := len_co (r := 3) (v := 8192 - y2)
  simp only [List.length_append, List.length_map, len_L, len_G, len_N, len_on, len_off, len_pl]
  omega
theorem lm_14_1 {f0 f1 f2 f3 : Bool} {lk x y y2 y3 lk2 : Int} (h0 : f0 = true → f2 = true) (h1 : f1 = true → f3 = true) : (it_14_1 f0 f1 lk x y y2 y3).length ≤ (it_14_1 f2 f3 lk2 x y y2 y3).length := by
  unfold it_14_1
  have q0 := gl_m h0
  have q1 := gl_m h1
  simp only [List.length_append, List.length_map, len_L, len_G, len_N, len_on, len_off, len_pl]
  omega
theorem kO_14_1 {F : Nat → Bool} {k : Nat} {f0 f1 : Bool} {lk x y y2 y3 : Int} : kO F (it_14_1 f0 f1 lk x y y2 y3) k := by
  unfold it_14_1
  simp only [kO_app, kO_m, kO_L, kO_G, kO_N, ngo_app, ngo_m, ngo_L, ngo_G, ngo_N, true_and, and_true, Nat.add_zero, Nat.zero_add]
theorem wf_14_1 {f0 f1 : Bool} {lk x y y2 y3 : Int} : Wf (it_14_1 f0 f1 lk x y y2 y3) := Wf_app (Wf_app (Wf_app (Wf_m _) (Wf_m _)) (Wf_L)) (Wf_m _)
theorem ng_14_2 {f0 f1 : Bool} {lk x y y2 y3 : Int} : ngo (it_14_2 f0 f1 lk x y y2 y3) = 0 := by
  unfold it_14_2
  simp only [ngo_app, ngo_m, ngo_L, ngo_G, ngo_N]
theorem nn_14_2 {f0 f1 : Bool} {lk x y y2 y3 : Int} : nno (it_14_2 f0 f1 lk x y y2 y3) = 0 := by
  unfold it_14_2
  simp only [nno_app, nno_m, nno_L, nno_G, nno_N]
theorem ln_14_2 {f0 f1 : Bool} {lk x y y2 y3 : Int} : (it_14_2 f0 f1 lk x y y2 y3).length ≤ 25 := by
  unfold it_14_2
  have q0 := gl_b (f := f0)
  have q1 := gl_b (f := f1)
  have q2 := len_co (r := 0) (v := x)
  have q3 := len_co (r := 1) (v := y)
  have q4 := len_co (r := 3) (v := 8192 - y2)
  simp only [List.length_append, List.length_map, len_L, len_G, len_N, len_on, len_off, len_pl]
  omega
theorem lm_14_2 {f0 f1 f2 f3 : Bool} {lk x y y2 y3 lk2 : Int} (h0 : f0 = true → f2 = true) (h1 : f1 = true → f3 = true) : (it_14_2 f0 f1 lk x y y2 y3).length ≤ (it_14_2 f2 f3 lk2 x y y2 y3).length := by
  unfold it_14_2
  have q0 := gl_m h0
  have q1 := gl_m h1
  simp only [List.length_append, List.length_map, len_L, len_G, len_N, len_on, len_off, len_pl]
  omega
theorem kO_14_2 {F : Nat → Bool} {k : Nat} {f0 f1 : Bool} {lk x y y2 y3 : Int} : kO F (it_14_2 f0 f1 lk x y y2 y3) k := by
  unfold it_14_2
  simp only [kO_app, kO_m, kO_L, kO_G, kO_N, ngo_app, ngo_m, ngo_L, ngo_G, ngo_N, true_and, and_true, Nat.add_zero, Nat.zero_add]
theorem wf_14_2 {f0 f1 : Bool} {lk x y y2 y3 : Int} : Wf (it_14_2 f0 f1 lk x y y2 y3) := Wf_app (Wf_app (Wf_app (Wf_app (Wf_app (Wf_m _) (Wf_m _)) (Wf_L)) (Wf_L)) (Wf_L)) (Wf_m _)
theorem ng_14_3 {f0 f1 : Bool} {lk x y y2 y3 : Int} : ngo (it_14_3 f0 f1 lk x y y2 y3) = 0 := by
  unfold it_14_3
  simp only [ngo_app, ngo_m, ngo_L, ngo_G, ngo_N]
theorem nn_14_3 {f0 f1 : Bool} {lk x y y2 y3 : Int} : nno (it_14_3 f0 f1 lk x y y2 y3) = 0 := by
  unfold it_14_3
  simp only [nno_app, nno_m, nno_L, nno_G, nno_N]
theorem ln_14_3 {f0 f1 : Bool} {lk x y y2 y3 : Int} : (it_14_3 f0 f1 lk x y y2 y3).length ≤ 25 := by
  unfold it_14_3
  have q0 := gl_b (f := f0)
  have q1 := gl_b (f := f1)
  have q2 := len_co (r := 0) (v := x)
  have q3 := len_co (r := 1) (v := y)
  have q4 := len_co (r := 3) (v := 8192 - y2)
  simp only [List.length_append, List.length_map, len_L, len_G, len_N, len_on, len_off, len_pl]
  omega
theorem lm_14_3 {f0 f1 f2 f3 : Bool} {lk x y y2 y3 lk2 : Int} (h0 : f0 = true → f2 = true) (h1 : f1 = true → f3 = true) : (it_14_3 f0 f1 lk x y y2 y3).length ≤ (it_14_3 f2 f3 lk2 x y y2 y3).length := by
  unfold it_14_3
  have q0 := gl_m h0
  have q1 := gl_m h1
  simp only [List.length_append, List.length_map, len_L, len_G, len_N, len_on, len_off, len_pl]
  omega
theorem kO_14_3 {F : Nat → Bool} {k : Nat} {f0 f1 : Bool} {lk x y y2 y3 : Int} : kO F (it_14_3 f0 f1 lk x y y2 y3) k := by
  unfold it_14_3
  simp only [kO_app, kO_m, kO_L, kO_G, kO_N, ngo_app, ngo_m, ngo_L, ngo_G, ngo_N, true_and, and_true, Nat.add_zero, Nat.zero_add]
theorem wf_14_3 {f0 f1 : Bool} {lk x y y2 y3 : Int} : Wf (it_14_3 f0 f1 lk x y y2 y3) := Wf_app (Wf_app (Wf_app (Wf_app (Wf_app (Wf_m _) (Wf_m _)) (Wf_L)) (Wf_L)) (Wf_L)) (Wf_m _)
theorem ng_14_4 {f0 f1 : Bool} {lk x y y2 y3 : Int} : ngo (it_14_4 f0 f1 lk x y y2 y3) = 0 := by
  unfold it_14_4
  simp only [ngo_app, ngo_m, ngo_L, ngo_G, ngo_N]
theorem nn_14_4 {f0 f1 : Bool} {lk x y y2 y3 : Int} : nno (it_14_4 f0 f1 lk x y y2 y3) = 0 := by
  unfold it_14_4
  simp only [nno_app, nno_m, nno_L, nno_G, nno_N]
theorem ln_14_4 {f0 f1 : Bool} {lk x y y2 y3 : Int} : (it_14_4 f0 f1 lk x y y2 y3).length ≤ 25 := by
  unfold it_14_4
  have q0 := gl_b (f := f0)
  have q1 := gl_b (f := f1)
  have q2 := len_co (r := 0) (v := x)
  have q3 := len_co (r := 1) (v := y)
  have q4 := len_co (r := 3) (v := 8192 - y2)
  simp only [List.length_append, List.length_map, len_L, len_G, len_N, len_on, len_off, len_pl]
  omega
theorem lm_14_4 {f0 f1 f2 f3 : Bool} {lk x y y2 y3 lk2 : Int} (h0 : f0 = true → f2 = true) (h1 : f1 = true → f3 = true) : (it_14_4 f0 f1 lk x y y2 y3).length ≤ (it_14_4 f2 f3 lk2 x y y2 y3).length := by
  unfold it_14_4
  have q0 := gl_m h0
  have q1 := gl_m h1
  simp only [List.length_append, List.length_map, len_L, len_G, len_N, len_on, len_off, len_pl]
  omega
theorem kO_14_4 {F : Nat → Bool} {k : Nat} {f0 f1 : Bool} {lk x y y2 y3 : Int} : kO F (it_14_4 f0 f1 lk x y y2 y3) k := by
  unfold it_14_4
  simp only [kO_app, kO_m, kO_L, kO_G, kO_N, ngo_app, ngo_m, ngo_L, ngo_G, ngo_N, true_and, and_true, Nat.add_zero, Nat.zero_add]
theorem wf_14_4 {f0 f1 : Bool} {lk x y y2 y3 : Int} : Wf (it_14_4 f0 f1 lk x y y2 y3) := Wf_app (Wf_app (Wf_app (Wf_app (Wf_app (Wf_app (Wf_m _) (Wf_m _)) (Wf_L)) (Wf_L)) (Wf_L)) (Wf_L)) (Wf_m _)
theorem ng_14_5 {f0 f1 : Bool} {lk x y y2 y3 : Int} : ngo (it_14_5 f0 f1 lk x y y2 y3) = 0 := by
  unfold it_14_5
  simp only [ngo_app, ngo_m, ngo_L, ngo_G, ngo_N]
theorem nn_14_5 {f0 f1 : Bool} {lk x y y2 y3 : Int} : nno (it_14_5 f0 f1 lk x y y2 y3) = 0 := by
  unfold it_14_5
  simp only [nno_app, nno_m, nno_L, nno_G, nno_N]
theorem ln_14_5 {f0 f1 : Bool} {lk x y y2 y3 : Int} : (it_14_5 f0 f1 lk x y y2 y3).length ≤ 25 := by
  unfold it_14_5
  have q0 := gl_b (f := f0)
  have q1 := gl_b (f := f1)
  have q2 := len_co (r := 0) (v := x)
  have q3 := len_co (r := 1) (v := y)
  have q4 := len_co (r := 3) (v := 8192 - y2)
  simp only [List.length_append, List.length_map, len_L, len_G, len_N, len_on, len_off, len_pl]
  omega
theorem lm_14_5 {f0 f1 f2 f3 : Bool} {lk x y y2 y3 lk2 : Int} (h0 : f0 = true → f2 = true) (h1 : f1 = true → f3 = true) : (it_14_5 f0 f1 lk x y y2 y3).length ≤ (it_14_5 f2 f3 lk2 x y y2 y3).length := by
  unfold it_14_5
  have q0 := gl_m h0
  have q1 := gl_m h1
  simp only [List.length_append, List.length_map, len_L, len_G, len_N, len_on, len_off, len_pl]
  omega
theorem kO_14_5 {F : Nat → Bool} {k : Nat} {f0 f1 : Bool} {lk x y y2 y3 : Int} : kO F (it_14_5 f0 f1 lk x y y2 y3) k := by
  unfold it_14_5
  simp only [kO_app, kO_m, kO_L, kO_G, kO_N, ngo_app, ngo_m, ngo_L, ngo_G, ngo_N, true_and, and_true, Nat.add_zero, Nat.zero_add]
theorem wf_14_5 {f0 f1 : Bool} {lk x y y2 y3 : Int} : Wf (it_14_5 f0 f1 lk x y y2 y3) := Wf_app (Wf_app (Wf_app (Wf_app (Wf_app (Wf_app (Wf_m _) (Wf_m _)) (Wf_L)) (Wf_L)) (Wf_L)) (Wf_L)) (Wf_m _)
theorem ng_B {f0 f1 : Bool} {lk x y y2 y3 : Int} : ngo (it_B f0 f1 lk x y y2 y3) = 0 := by
  unfold it_B
  simp only [ngo_app, ngo_m, ngo_L, ngo_G, ngo_N]
theorem nn_B {f0 f1 : Bool} {lk x y y2 y3 : Int} : nno (it_B f0 f1 lk x y y2 y3) = 0 := by
  unfold it_B
  simp only [nno_app, nno_m, nno_L, nno_G, nno_N]
theorem ln_B {f0 f1 : Bool} {lk x y y2 y3 : Int} : (it_B f0 f1 lk x y y2 y3).length ≤ 25 := by
  unfold it_B
  have q0 := gl_b (f := f0)
  have q1 := gl_b (f := f1)
  have q2 := len_co (r := 0) (v := x)
  have q3 := len_co (r := 1) (v := y)
  have q4 := len_co (r := 3) (v := 8192 - y2)
  simp only [List.length_append, List.length_map, len_L, len_G, len_N, len_on, len_off, len_pl]
  omega
theorem lm_B {f0 f1 f2 f3 : Bool} {lk x y y2 y3 lk2 : Int} (h0 : f0 = true → f2 = true) (h1 : f1 = true → f3 = true) : (it_B f0 f1 lk x y y2 y3).length ≤ (it_B f2 f3 lk2 x y y2 y3).length := by
  unfold it_B
  have q0 := gl_m h0
  have q1 := gl_m h1
  simp only [List.length_append, List.length_map, len_L, len_G, len_N, len_on, len_off, len_pl]
  omega
theorem kO_B {F : Nat → Bool} {k : Nat} {f0 f1 : Bool} {lk x y y2 y3 : Int} : kO F (it_B f0 f1 lk x y y2 y3) k := by
  unfold it_B
  simp only [kO_app, kO_m, kO_L, kO_G, kO_N, ngo_app, ngo_m, ngo_L, ngo_G, ngo_N, true_and, and_true, Nat.add_zero, Nat.zero_add]
theorem wf_B {f0 f1 : Bool} {lk x y y2 y3 : Int} : Wf (it_B f0 f1 lk x y y2 y3) := Wf_app (Wf_app (Wf_app (Wf_app (Wf_app (Wf_L) (Wf_L)) (Wf_L)) (Wf_L)) (Wf_L)) (Wf_L)
theorem lv_g : ∀ cs : List Int, ngo (lvI cs) = 0 ∧ nno (lvI cs) = 0 ∧ (lvI cs).length = 3 * cs.length
  | [] => ⟨rfl, rfl, rfl⟩
  | c :: cs => by
    obtain ⟨a, b, e⟩ := lv_g cs
    refine ⟨?_, ?_, ?_⟩
    · show ngo (mtI c ((c :: cs).length : Int) ++ lvI cs) = 0
      rw [ngo_app, a]; rfl
    · show nno (mtI c ((c :: cs).length : Int) ++ lvI cs) = 0
      rw [nno_app, b]; rfl
    · show (mtI c ((c :: cs).length : Int) ++ lvI cs).length = 3 * (cs.length + 1)
      rw [List.length_append, e]
      show 3 + 3 * cs.length = _
      omega
theorem lv_w : ∀ cs : List Int, Wf (lvI cs)
  | [] => Wf_nil
  | c :: cs => Wf_app (Wf_app Wf_L (Wf_app Wf_L Wf_L)) (lv_w cs)
theorem lv_k {F : Nat → Bool} {k : Nat} : ∀ cs : List Int, kO F (lvI cs) k
  | [] => trivial
  | c :: cs => by
    show kO F (mtI c ((c :: cs).length : Int) ++ lvI cs) k
    unfold mtI
    simp only [kO_app, kO_L, ngo_app, ngo_L, true_and, Nat.add_zero]
    exact lv_k cs
theorem itO_g {o : Int} {f0 f1 : Bool} {lk x y y2 y3 : Int} {cs : List Int} (ho : 0 ≤ o ∧ o ≤ 26) (h14 : o = 14 → 0 ≤ x ∧ x ≤ 5) : ngo (itO o f0 f1 lk x y y2 y3 cs) = gNo o := by
  have hcs : o = 0 ∨ o = 1 ∨ o = 2 ∨ o = 3 ∨ o = 4 ∨ o = 5 ∨ o = 6 ∨ o = 7 ∨ o = 8 ∨ o = 9 ∨ o = 10 ∨ o = 11 ∨ o = 12 ∨ o = 13 ∨ o = 14 ∨ o = 15 ∨ o = 16 ∨ o = 17 ∨ o = 18 ∨ o = 19 ∨ o = 20 ∨ o = 21 ∨ o = 22 ∨ o = 23 ∨ o = 24 ∨ o = 25 ∨ o = 26 := by omega
  rcases hcs with h | h | h | h | h | h | h | h | h | h | h | h | h | h | h | h | h | h | h | h | h | h | h | h | h | h | h
  · subst h
    rw [itO_0]; exact ng_0
  · subst h
    rw [itO_1]; exact ng_1
  · subst h
    rw [itO_2]; exact ng_2
  · subst h
    rw [itO_3]; exact ng_3
  · subst h
    rw [itO_4]; exact ng_4
  · subst h
    rw [itO_5]; exact ng_5
  · subst h
    rw [itO_6]; exact ng_6
  · subst h
    rw [itO_7]; exact ng_7
  · subst h
    rw [itO_8]; exact ng_8
  · subst h
    rw [itO_9]; exact ng_9
  · subst h
    rw [itO_10]; exact ng_10
  · subst h
    rw [itO_11]; exact ng_11
  · subst h
    rw [itO_12]; exact ng_12
  · subst h
    rw [itO_13]; exact ng_13
  · subst h
    obtain ⟨h5, h6⟩ := h14 rfl
    have hcz : x = 0 ∨ x = 1 ∨ x = 2 ∨ x = 3 ∨ x = 4 ∨ x = 5 := by omega
    rcases hcz with hz | hz | hz | hz | hz | hz
    · subst hz
      rw [itO_14_0]; exact ng_14_0
    · subst hz
      rw [itO_14_1]; exact ng_14_1
    · subst hz
      rw [itO_14_2]; exact ng_14_2
    · subst hz
      rw [itO_14_3]; exact ng_14_3
    · subst hz
      rw [itO_14_4]; exact ng_14_4
    · subst hz
      rw [itO_14_5]; exact ng_14_5
  · subst h
    rw [itO_15]; exact ng_15
  · subst h
    rw [itO_16]; exact ng_16
  · subst h
    rw [itO_17]; exact ng_17
  · subst h
    rw [itO_18]; exact ng_18
  · subst h
    rw [itO_19]; exact ng_19
  · subst h
    rw [itO_20]; exact ng_20
  · subst h
    rw [itO_21]; exact ng_21
  · subst h
    rw [itO_22]; exact ng_22
  · subst h
    rw [itO_23]; exact ng_23
  · subst h
    rw [itO_24]; exact ng_24
  · subst h
    rw [itO_25]; exact ng_25
  · subst h
    rw [itO_26, ngo_app, (lv_g cs).1, ng_B]; rfl
theorem itO_n {o : Int} {f0 f1 : Bool} {lk x y y2 y3 : Int} {cs : List Int} (ho : 0 ≤ o ∧ o ≤ 26) (h14 : o = 14 → 0 ≤ x ∧ x ≤ 5) : nno (itO o f0 f1 lk x y y2 y3 cs) ≤ 1 := by
  have hcs : o = 0 ∨ o = 1 ∨ o = 2 ∨ o = 3 ∨ o = 4 ∨ o = 5 ∨ o = 6 ∨ o = 7 ∨ o = 8 ∨ o = 9 ∨ o = 10 ∨ o = 11 ∨ o = 12 ∨ o = 13 ∨ o = 14 ∨ o = 15 ∨ o = 16 ∨ o = 17 ∨ o = 18 ∨ o = 19 ∨ o = 20 ∨ o = 21 ∨ o = 22 ∨ o = 23 ∨ o = 24 ∨ o = 25 ∨ o = 26 := by omega
  rcases hcs with h | h | h | h | h | h | h | h | h | h | h | h | h | h | h | h | h | h | h | h | h | h | h | h | h | h | h
  · subst h
    rw [itO_0]; exact Nat.le_trans (Nat.le_of_eq nn_0) (by decide)
  · subst h
    rw [itO_1]; exact Nat.le_trans (Nat.le_of_eq nn_1) (by decide)
  · subst h
    rw [itO_2]; exact Nat.le_trans (Nat.le_of_eq nn_2) (by decide)
  · subst h
    rw [itO_3]; exact Nat.le_trans (Nat.le_of_eq nn_3) (by decide)
  · subst h
    rw [itO_4]; exact Nat.le_trans (Nat.le_of_eq nn_4) (by decide)
  · subst h
    rw [itO_5]; exact Nat.le_trans (Nat.le_of_eq nn_5) (by decide)
  · subst h
    rw [itO_6]; exact Nat.le_trans (Nat.le_of_eq nn_6) (by decide)
  · subst h
    rw [itO_7]; exact Nat.le_trans (Nat.le_of_eq nn_7) (by decide)
  · subst h
    rw [itO_8]; exact Nat.le_trans (Nat.le_of_eq nn_8) (by decide)
  · subst h
    rw [itO_9]; exact Nat.le_trans (Nat.le_of_eq nn_9) (by decide)
  · subst h
    rw [itO_10]; exact Nat.le_trans (Nat.le_of_eq nn_10) (by decide)
  · subst h
    rw [itO_11]; exact Nat.le_trans (Nat.le_of_eq nn_11) (by decide)
  · subst h
    rw [itO_12]; exact Nat.le_trans (Nat.le_of_eq nn_12) (by decide)
  · subst h
    rw [itO_13]; exact Nat.le_trans (Nat.le_of_eq nn_13) (by decide)
  · subst h
    obtain ⟨h5, h6⟩ := h14 rfl
    have hcz : x = 0 ∨ x = 1 ∨ x = 2 ∨ x = 3 ∨ x = 4 ∨ x = 5 := by omega
    rcases hcz with hz | hz | hz | hz | hz | hz
    · subst hz
      rw [itO_14_0]; exact Nat.le_trans (Nat.le_of_eq nn_14_0) (by decide)
    · subst hz
      rw [itO_14_1]; exact Nat.le_trans (Nat.le_of_eq nn_14_1) (by decide)
    · subst hz
      rw [itO_14_2]; exact Nat.le_trans (Nat.le_of_eq nn_14_2) (by decide)
    · subst hz
      rw [itO_14_3]; exact Nat.le_trans (Nat.le_of_eq nn_14_3) (by decide)
    · subst hz
      rw [itO_14_4]; exact Nat.le_trans (Nat.le_of_eq nn_14_4) (by decide)
    · subst hz
      rw [itO_14_5]; exact Nat.le_trans (Nat.le_of_eq nn_14_5) (by decide)
  · subst h
    rw [itO_15]; exact Nat.le_trans (Nat.le_of_eq nn_15) (by decide)
  · subst h
    rw [itO_16]; exact Nat.le_trans (Nat.le_of_eq nn_16) (by decide)
  · subst h
    rw [itO_17]; exact Nat.le_trans (Nat.le_of_eq nn_17) (by decide)
  · subst h
    rw [itO_18]; exact Nat.le_trans (Nat.le_of_eq nn_18) (by decide)
  · subst h
    rw [itO_19]; exact Nat.le_trans (Nat.le_of_eq nn_19) (by decide)
  · subst h
    rw [itO_20]; exact Nat.le_trans (Nat.le_of_eq nn_20) (by decide)
  · subst h
    rw [itO_21]; exact Nat.le_trans (Nat.le_of_eq nn_21) (by decide)
  · subst h
    rw [itO_22]; exact Nat.le_trans (Nat.le_of_eq nn_22) (by decide)
  · subst h
    rw [itO_23]; exact Nat.le_trans (Nat.le_of_eq nn_23) (by decide)
  · subst h
    rw [itO_24]; exact Nat.le_trans (Nat.le_of_eq nn_24) (by decide)
  · subst h
    rw [itO_25]; exact Nat.le_trans (Nat.le_of_eq nn_25) (by decide)
  · subst h
    rw [itO_26, nno_app, (lv_g cs).2.1, nn_B]; decide
theorem itO_l {o : Int} {f0 f1 : Bool} {lk x y y2 y3 : Int} {cs : List Int} (ho : 0 ≤ o ∧ o ≤ 26) (h14 : o = 14 → 0 ≤ x ∧ x ≤ 5) : (itO o f0 f1 lk x y y2 y3 cs).length ≤ 25 + (if o = 26 then 3 * cs.length else 0) := by
  have hcs : o = 0 ∨ o = 1 ∨ o = 2 ∨ o = 3 ∨ o = 4 ∨ o = 5 ∨ o = 6 ∨ o = 7 ∨ o = 8 ∨ o = 9 ∨ o = 10 ∨ o = 11 ∨ o = 12 ∨ o = 13 ∨ o = 14 ∨ o = 15 ∨ o = 16 ∨ o = 17 ∨ o = 18 ∨ o = 19 ∨ o = 20 ∨ o = 21 ∨ o = 22 ∨ o = 23 ∨ o = 24 ∨ o = 25 ∨ o = 26 := by omega
  rcases hcs with h | h | h | h | h | h | h | h | h | h | h | h | h | h | h | h | h | h | h | h | h | h | h | h | h | h | h
  · subst h
    rw [itO_0]; exact ln_0
  · subst h
    rw [itO_1]; exact ln_1
  · subst h
    rw [itO_2]; exact ln_2
  · subst h
    rw [itO_3]; exact ln_3
  · subst h
    rw [itO_4]; exact ln_4
  · subst h
    rw [itO_5]; exact ln_5
  · subst h
    rw [itO_6]; exact ln_6
  · subst h
    rw [itO_7]; exact ln_7
  · subst h
    rw [itO_8]; exact ln_8
  · subst h
    rw [itO_9]; exact ln_9
  · subst h
    rw [itO_10]; exact ln_10
  · subst h
    rw [itO_11]; exact ln_11
  · subst h
    rw [itO_12]; exact ln_12
  · subst h
    rw [itO_13]; exact ln_13
  · subst h
    obtain ⟨h5, h6⟩ := h14 rfl
    have hcz : x = 0 ∨ x = 1 ∨ x = 2 ∨ x = 3 ∨ x = 4 ∨ x = 5 := by omega
    rcases hcz with hz | hz | hz | hz | hz | hz
    · subst hz
      rw [itO_14_0]; exact ln_14_0
    · subst hz
      rw [itO_14_1]; exact ln_14_1
    · subst hz
      rw [itO_14_2]; exact ln_14_2
    · subst hz
      rw [itO_14_3]; exact ln_14_3
    · subst hz
      rw [itO_14_4]; exact ln_14_4
    · subst hz
      rw [itO_14_5]; exact ln_14_5
  · subst h
    rw [itO_15]; exact ln_15
  · subst h
    rw [itO_16]; exact ln_16
  · subst h
    rw [itO_17]; exact ln_17
  · subst h
    rw [itO_18]; exact ln_18
  · subst h
    rw [itO_19]; exact ln_19
  · subst h
    rw [itO_20]; exact ln_20
  · subst h
    rw [itO_21]; exact ln_21
  · subst h
    rw [itO_22]; exact ln_22
  · subst h
    rw [itO_23]; exact ln_23
  · subst h
    rw [itO_24]; exact ln_24
  · subst h
    rw [itO_25]; exact ln_25
  · subst h
    have := ln_B (f0 := f0) (f1 := f1) (lk := lk) (x := x) (y := y) (y2 := y2) (y3 := y3); rw [itO_26, List.length_append, (lv_g cs).2.2, if_pos rfl]; omega
theorem itO_m {o : Int} {f0 f1 f2 f3 : Bool} {lk x y y2 y3 : Int} {cs : List Int} (ho : 0 ≤ o ∧ o ≤ 26) (h14 : o = 14 → 0 ≤ x ∧ x ≤ 5) (h0 : f0 = true → f2 = true) (h1 : f1 = true → f3 = true) : (itO o f0 f1 lk x y y2 y3 cs).length ≤ (itO o f2 f3 lk x y y2 y3 cs).length := by
  have hcs : o = 0 ∨ o = 1 ∨ o = 2 ∨ o = 3 ∨ o = 4 ∨ o = 5 ∨ o = 6 ∨ o = 7 ∨ o = 8 ∨ o = 9 ∨ o = 10 ∨ o = 11 ∨ o = 12 ∨ o = 13 ∨ o = 14 ∨ o = 15 ∨ o = 16 ∨ o = 17 ∨ o = 18 ∨ o = 19 ∨ o = 20 ∨ o = 21 ∨ o = 22 ∨ o = 23 ∨ o = 24 ∨ o = 25 ∨ o = 26 := by omega
  rcases hcs with h | h | h | h | h | h | h | h | h | h | h | h | h | h | h | h | h | h | h | h | h | h | h | h | h | h | h
  · subst h
    rw [itO_0, itO_0]; exact lm_0 h0 h1
  · subst h
    rw [itO_1, itO_1]; exact lm_1 h0 h1
  · subst h
    rw [itO_2, itO_2]; exact lm_2 h0 h1
  · subst h
    rw [itO_3, itO_3]; exact lm_3 h0 h1
  · subst h
    rw [itO_4, itO_4]; exact lm_4 h0 h1
  · subst h
    rw [itO_5, itO_5]; exact lm_5 h0 h1
  · subst h
    rw [itO_6, itO_6]; exact lm_6 h0 h1
  · subst h
    rw [itO_7, itO_7]; exact lm_7 h0 h1
  · subst h
    rw [itO_8, itO_8]; exact lm_8 h0 h1
  · subst h
    rw [itO_9, itO_9]; exact lm_9 h0 h1
  · subst h
    rw [itO_10, itO_10]; exact lm_10 h0 h1
  · subst h
    rw [itO_11, itO_11]; exact lm_11 h0 h1
  · subst h
    rw [itO_12, itO_12]; exact lm_12 h0 h1
  · subst h
    rw [itO_13, itO_13]; exact lm_13 h0 h1
  · subst h
    obtain ⟨h5, h6⟩ := h14 rfl
    have hcz : x = 0 ∨ x = 1 ∨ x = 2 ∨ x = 3 ∨ x = 4 ∨ x = 5 := by omega
    rcases hcz with hz | hz | hz | hz | hz | hz
    · subst hz
      rw [itO_14_0, itO_14_0]; exact lm_14_0 h0 h1
    · subst hz
      rw [itO_14_1, itO_14_1]; exact lm_14_1 h0 h1
    · subst hz
      rw [itO_14_2, itO_14_2]; exact lm_14_2 h0 h1
    · subst hz
      rw [itO_14_3, itO_14_3]; exact lm_14_3 h0 h1
    · subst hz
      rw [itO_14_4, itO_14_4]; exact lm_14_4 h0 h1
    · subst hz
      rw [itO_14_5, itO_14_5]; exact lm_14_5 h0 h1
  · subst h
    rw [itO_15, itO_15]; exact lm_15 h0 h1
  · subst h
    rw [itO_16, itO_16]; exact lm_16 h0 h1
  · subst h
    rw [itO_17, itO_17]; exact lm_17 h0 h1
  · subst h
    rw [itO_18, itO_18]; exact lm_18 h0 h1
  · subst h
    rw [itO_19, itO_19]; exact lm_19 h0 h1
  · subst h
    rw [itO_20, itO_20]; exact lm_20 h0 h1
  · subst h
    rw [itO_21, itO_21]; exact lm_21 h0 h1
  · subst h
    rw [itO_22, itO_22]; exact lm_22 h0 h1
  · subst h
    rw [itO_23, itO_23]; exact lm_23 h0 h1
  · subst h
    rw [itO_24, itO_24]; exact lm_24 h0 h1
  · subst h
    rw [itO_25, itO_25]; exact lm_25 h0 h1
  · subst h
    rw [itO_26, itO_26, List.length_append, List.length_append]; exact Nat.add_le_add_left (lm_B h0 h1) _
theorem itO_w {o : Int} {f0 f1 : Bool} {lk x y y2 y3 : Int} {cs : List Int} (ho : 0 ≤ o ∧ o ≤ 26) (h14 : o = 14 → 0 ≤ x ∧ x ≤ 5) : Wf (itO o f0 f1 lk x y y2 y3 cs) := by
  have hcs : o = 0 ∨ o = 1 ∨ o = 2 ∨ o = 3 ∨ o = 4 ∨ o = 5 ∨ o = 6 ∨ o = 7 ∨ o = 8 ∨ o = 9 ∨ o = 10 ∨ o = 11 ∨ o = 12 ∨ o = 13 ∨ o = 14 ∨ o = 15 ∨ o = 16 ∨ o = 17 ∨ o = 18 ∨ o = 19 ∨ o = 20 ∨ o = 21 ∨ o = 22 ∨ o = 23 ∨ o = 24 ∨ o = 25 ∨ o = 26 := by omega
  rcases hcs with h | h | h | h | h | h | h | h | h | h | h | h | h | h | h | h | h | h | h | h | h | h | h | h | h | h | h
  · subst h
    rw [itO_0]; exact wf_0
  · subst h
    rw [itO_1]; exact wf_1
  · subst h
    rw [itO_2]; exact wf_2
  · subst h
    rw [itO_3]; exact wf_3
  · subst h
    rw [itO_4]; exact wf_4
  · subst h
    rw [itO_5]; exact wf_5
  · subst h
    rw [itO_6]; exact wf_6
  · subst h
    rw [itO_7]; exact wf_7
  · subst h
    rw [itO_8]; exact wf_8
  · subst h
    rw [itO_9]; exact wf_9
  · subst h
    rw [itO_10]; exact wf_10
  · subst h
    rw [itO_11]; exact wf_11
  · subst h
    rw [itO_12]; exact wf_12
  · subst h
    rw [itO_13]; exact wf_13
  · subst h
    obtain ⟨h5, h6⟩ := h14 rfl
    have hcz : x = 0 ∨ x = 1 ∨ x = 2 ∨ x = 3 ∨ x = 4 ∨ x = 5 := by omega
    rcases hcz with hz | hz | hz | hz | hz | hz
    · subst hz
      rw [itO_14_0]; exact wf_14_0
    · subst hz
      rw [itO_14_1]; exact wf_14_1
    · subst hz
      rw [itO_14_2]; exact wf_14_2
    · subst hz
      rw [itO_14_3]; exact wf_14_3
    · subst hz
      rw [itO_14_4]; exact wf_14_4
    · subst hz
      rw [itO_14_5]; exact wf_14_5
  · subst h
    rw [itO_15]; exact wf_15
  · subst h
    rw [itO_16]; exact wf_16
  · subst h
    rw [itO_17]; exact wf_17
  · subst h
    rw [itO_18]; exact wf_18
  · subst h
    rw [itO_19]; exact wf_19
  · subst h
    rw [itO_20]; exact wf_20
  · subst h
    rw [itO_21]; exact wf_21
  · subst h
    rw [itO_22]; exact wf_22
  · subst h
    rw [itO_23]; exact wf_23
  · subst h
    rw [itO_24]; exact wf_24
  · subst h
    rw [itO_25]; exact wf_25
  · subst h
    rw [itO_26]; exact Wf_app (lv_w cs) wf_B
theorem itO_k {o : Int} {f0 f1 : Bool} {lk x y y2 y3 : Int} {cs : List Int} {F : Nat → Bool} {k : Nat} (ho : 0 ≤ o ∧ o ≤ 26) (h14 : o = 14 → 0 ≤ x ∧ x ≤ 5) (h0 : 0 < gNo o → F k = f0) (h1 : o = 11 → F (k + 1) = f1) : kO F (itO o f0 f1 lk x y y2 y3 cs) k := by
  have hcs : o = 0 ∨ o = 1 ∨ o = 2 ∨ o = 3 ∨ o = 4 ∨ o = 5 ∨ o = 6 ∨ o = 7 ∨ o = 8 ∨ o = 9 ∨ o = 10 ∨ o = 11 ∨ o = 12 ∨ o = 13 ∨ o = 14 ∨ o = 15 ∨ o = 16 ∨ o = 17 ∨ o = 18 ∨ o = 19 ∨ o = 20 ∨ o = 21 ∨ o = 22 ∨ o = 23 ∨ o = 24 ∨ o = 25 ∨ o = 26 := by omega
  rcases hcs with h | h | h | h | h | h | h | h | h | h | h | h | h | h | h | h | h | h | h | h | h | h | h | h | h | h | h
  · subst h
    rw [itO_0]; exact kO_0
  · subst h
    rw [itO_1]; exact kO_1
  · subst h
    rw [itO_2]; exact kO_2
  · subst h
    rw [itO_3]; exact kO_3
  · subst h
    rw [itO_4]; exact kO_4
  · subst h
    rw [itO_5]; exact kO_5
  · subst h
    rw [itO_6]; exact kO_6 (h0 (by decide))
  · subst h
    rw [itO_7]; exact kO_7 (h0 (by decide))
  · subst h
    rw [itO_8]; exact kO_8 (h0 (by decide))
  · subst h
    rw [itO_9]; exact kO_9 (h0 (by decide))
  · subst h
    rw [itO_10]; exact kO_10 (h0 (by decide))
  · subst h
    rw [itO_11]; exact kO_11 (h0 (by decide)) (h1 rfl)
  · subst h
    rw [itO_12]; exact kO_12 (h0 (by decide))
  · subst h
    rw [itO_13]; exact kO_13 (h0 (by decide))
  · subst h
    obtain ⟨h5, h6⟩ := h14 rfl
    have hcz : x = 0 ∨ x = 1 ∨ x = 2 ∨ x = 3 ∨ x = 4 ∨ x = 5 := by omega
    rcases hcz with hz | hz | hz | hz | hz | hz
    · subst hz
      rw [itO_14_0]; exact kO_14_0
    · subst hz
      rw [itO_14_1]; exact kO_14_1
    · subst hz
      rw [itO_14_2]; exact kO_14_2
    · subst hz
      rw [itO_14_3]; exact kO_14_3
    · subst hz
      rw [itO_14_4]; exact kO_14_4
    · subst hz
      rw [itO_14_5]; exact kO_14_5
  · subst h
    rw [itO_15]; exact kO_15 (h0 (by decide))
  · subst h
    rw [itO_16]; exact kO_16 (h0 (by decide))
  · subst h
    rw [itO_17]; exact kO_17 (h0 (by decide))
  · subst h
    rw [itO_18]; exact kO_18
  · subst h
    rw [itO_19]; exact kO_19 (h0 (by decide))
  · subst h
    rw [itO_20]; exact kO_20
  · subst h
    rw [itO_21]; exact kO_21 (h0 (by decide))
  · subst h
    rw [itO_22]; exact kO_22
  · subst h
    rw [itO_23]; exact kO_23
  · subst h
    rw [itO_24]; exact kO_24 (h0 (by decide))
  · subst h
    rw [itO_25]; exact kO_25 (h0 (by decide))
  · subst h
    rw [itO_26, kO_app]; exact ⟨lv_k cs, kO_B⟩
theorem itO_c {o : Int} {f0 f1 g0 g1 : Bool} {lk lk2 x y y2 y3 z z2 z3 : Int} {cs cs2 : List Int} (ho : 0 ≤ o ∧ o ≤ 26) (h14 : o = 14 → 0 ≤ x ∧ x ≤ 5) (h0 : 0 < gNo o → f0 = g0) (h1 : o = 11 → f1 = g1) (hlk : 0 < gNo o → lk = lk2) (hy : o = 2 ∨ o = 3 ∨ o = 6 ∨ o = 7 ∨ o = 17 ∨ o = 22 ∨ o = 23 ∨ o = 0 ∨ o = 26 → y = z) (hy2 : o = 0 → y2 = z2) (hy3 : o = 0 → y3 = z3) (hcs2 : o = 26 → cs = cs2) : itO o f0 f1 lk x y y2 y3 cs = itO o g0 g1 lk2 x z z2 z3 cs2 := by
  have hcs : o = 0 ∨ o = 1 ∨ o = 2 ∨ o = 3 ∨ o = 4 ∨ o = 5 ∨ o = 6 ∨ o = 7 ∨ o = 8 ∨ o = 9 ∨ o = 10 ∨ o = 11 ∨ o = 12 ∨ o = 13 ∨ o = 14 ∨ o = 15 ∨ o = 16 ∨ o = 17 ∨ o = 18 ∨ o = 19 ∨ o = 20 ∨ o = 21 ∨ o = 22 ∨ o = 23 ∨ o = 24 ∨ o = 25 ∨ o = 26 := by omega
  rcases hcs with h | h | h | h | h | h | h | h | h | h | h | h | h | h | h | h | h | h | h | h | h | h | h | h | h | h | h
  · subst h
    rw [itO_0, itO_0]; unfold it_0; rw [hy (by decide), hy2 rfl, hy3 rfl]
  · subst h
    rw [itO_1, itO_1]; unfold it_1; rfl
  · subst h
    rw [itO_2, itO_2]; unfold it_2; rw [hy (by decide)]
  · subst h
    rw [itO_3, itO_3]; unfold it_3; rw [hy (by decide)]
  · subst h
    rw [itO_4, itO_4]; unfold it_4; rfl
  · subst h
    rw [itO_5, itO_5]; unfold it_5; rfl
  · subst h
    rw [itO_6, itO_6]; unfold it_6; rw [h0 (by decide), hlk (by decide), hy (by decide)]
  · subst h
    rw [itO_7, itO_7]; unfold it_7; rw [h0 (by decide), hlk (by decide), hy (by decide)]
  · subst h
    rw [itO_8, itO_8]; unfold it_8; rw [h0 (by decide), hlk (by decide)]
  · subst h
    rw [itO_9, itO_9]; unfold it_9; rw [h0 (by decide), hlk (by decide)]
  · subst h
    rw [itO_10, itO_10]; unfold it_10; rw [h0 (by decide), hlk (by decide)]
  · subst h
    rw [itO_11, itO_11]; unfold it_11; rw [h0 (by decide), hlk (by decide), h1 rfl]
  · subst h
    rw [itO_12, itO_12]; unfold it_12; rw [h0 (by decide), hlk (by decide)]
  · subst h
    rw [itO_13, itO_13]; unfold it_13; rw [h0 (by decide), hlk (by decide)]
  · subst h
    obtain ⟨h5, h6⟩ := h14 rfl
    have hcz : x = 0 ∨ x = 1 ∨ x = 2 ∨ x = 3 ∨ x = 4 ∨ x = 5 := by omega
    rcases hcz with hz | hz | hz | hz | hz | hz
    · subst hz
      rw [itO_14_0, itO_14_0]; unfold it_14_0; rfl
    · subst hz
      rw [itO_14_1, itO_14_1]; unfold it_14_1; rfl
    · subst hz
      rw [itO_14_2, itO_14_2]; unfold it_14_2; rfl
    · subst hz
      rw [itO_14_3, itO_14_3]; unfold it_14_3; rfl
    · subst hz
      rw [itO_14_4, itO_14_4]; unfold it_14_4; rfl
    · subst hz
      rw [itO_14_5, itO_14_5]; unfold it_14_5; rfl
  · subst h
    rw [itO_15, itO_15]; unfold it_15; rw [h0 (by decide), hlk (by decide)]
  · subst h
    rw [itO_16, itO_16]; unfold it_16; rw [h0 (by decide), hlk (by decide)]
  · subst h
    rw [itO_17, itO_17]; unfold it_17; rw [h0 (by decide), hlk (by decide), hy (by decide)]
  · subst h
    rw [itO_18, itO_18]; unfold it_18; rfl
  · subst h
    rw [itO_19, itO_19]; unfold it_19; rw [h0 (by decide), hlk (by decide)]
  · subst h
    rw [itO_20, itO_20]; unfold it_20; rfl
  · subst h
    rw [itO_21, itO_21]; unfold it_21; rw [h0 (by decide), hlk (by decide)]
  · subst h
    rw [itO_22, itO_22]; unfold it_22; rw [hy (by decide)]
  · subst h
    rw [itO_23, itO_23]; unfold it_23; rw [hy (by decide)]
  · subst h
    rw [itO_24, itO_24]; unfold it_24; rw [h0 (by decide), hlk (by decide)]
  · subst h
    rw [itO_25, itO_25]; unfold it_25; rw [h0 (by decide), hlk (by decide)]
  · subst h
    rw [itO_26, itO_26, hcs2 rfl]; unfold it_B; rw [hy (by decide)]
