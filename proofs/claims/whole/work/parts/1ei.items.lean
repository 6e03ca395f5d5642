/-! WHAT IS LAID: words that are told, and words that are told when all places are known; both lay the same -/
abbrev It : Type := Int × Int × Int
def lit (w : Int) : It := (w, 0, 0)
def iL (o r a x : Int) : List It := [lit (wrd o r a (lw o x))]
def iGo (f : Bool) (lk : Int) : List It := if f then [(wrd 6 5 0 0, 2, lk), (wrd 7 5 0 0, 3, lk), lit (wrd 13 5 5 0)] else [(wrd 14 0 0 0, 1, lk)]
def iNt (r t : Int) : List It := [(wrd 6 r 0 0, 4, t), (wrd 7 r 0 0, 5, t)]
/-- the word, when the places P of orders and N of notes are known -/
def finW (P N : Int → Int) (A : Int) (i : It) : Int := i.1 + (if i.2.1 = 1 then (P i.2.2 - A - 1) % 4096 else if i.2.1 = 2 then P i.2.2 % 256 else if i.2.1 = 3 then P i.2.2 / 256 % 256 else if i.2.1 = 4 then N i.2.2 % 256 else if i.2.1 = 5 then N i.2.2 / 256 % 256 else 0)
/-- the class lays an item -/
def cOne (wr : Int) (P N : Int → Int) (cur : Nat) (i : It) (S : lS) : lS := (S.1 + 1, (if i.2.1 = 1 ∨ i.2.1 = 2 then S.2.1 + 1 else S.2.1), (if i.2.1 = 1 ∧ wr = 1 ∧ outR (P i.2.2) S.1 then 1 else S.2.2.1), (if i.2.1 = 1 ∧ wr = 1 ∧ outR (P i.2.2) S.1 then vput S.2.2.2.1 cur (ior (S.2.2.2.1 cur) (ishl 1 S.2.1)) else S.2.2.2.1), (if wr = 1 ∧ S.1 < 6000 then vput S.2.2.2.2 S.1.toNat (finW P N S.1 i) else S.2.2.2.2))
def cI (wr : Int) (P N : Int → Int) (cur : Nat) : List It → lS → lS
  | [], S => S
  | i :: l, S => cI wr P N cur l (cOne wr P N cur i S)
theorem cI_app {wr : Int} {P N : Int → Int} {cur : Nat} : ∀ (l1 l2 : List It) (S : lS), cI wr P N cur l2 (cI wr P N cur l1 S) = cI wr P N cur (l1 ++ l2) S
  | [], l2, S => rfl
  | i :: l1, l2, S => cI_app l1 l2 (cOne wr P N cur i S)
theorem cOne_l {wr : Int} {P N : Int → Int} {cur : Nat} {w : Int} {S : lS} : cOne wr P N cur (lit w) S = eS wr [w] S := by
  unfold cOne lit eS finW
  simp only [show ¬ ((0 : Int) = 1) from by decide, show ¬ ((0 : Int) = 2) from by decide, show ¬ ((0 : Int) = 3) from by decide, show ¬ ((0 : Int) = 4) from by decide, show ¬ ((0 : Int) = 5) from by decide, if_false, false_or, false_and, Int.add_zero]
  rfl
theorem eS_I {wr : Int} {P N : Int → Int} {cur : Nat} : ∀ (ws : List Int) (S : lS), eS wr ws S = cI wr P N cur (ws.map lit) S
  | [], S => eS_0
  | w :: ws, S => by
    have e : w :: ws = [w] ++ ws := rfl
    rw [e, ← eS_app, eS_I ws, ← cOne_l (P := P) (N := N) (cur := cur)]
    rfl
theorem finW_g1 {P N : Int → Int} {A lk : Int} : finW P N A (wrd 14 0 0 0, 1, lk) = wrd 14 0 0 ((P lk - A - 1) % 4096) := by
  unfold finW wrd
  simp only [if_true]
  omega
theorem finW_g2 {P N : Int → Int} {A lk : Int} : finW P N A (wrd 6 5 0 0, 2, lk) = wrd 6 5 0 (P lk % 256) := by
  unfold finW wrd
  simp only [show ¬ ((2 : Int) = 1) from by decide, if_true, if_false]
  omega
theorem finW_g3 {P N : Int → Int} {A lk : Int} : finW P N A (wrd 7 5 0 0, 3, lk) = wrd 7 5 0 (P lk / 256 % 256) := by
  unfold finW wrd
  simp only [show ¬ ((3 : Int) = 1) from by decide, show ¬ ((3 : Int) = 2) from by decide, if_true, if_false]
  omega
theorem finW_n4 {P N : Int → Int} {A r t : Int} : finW P N A (wrd 6 r 0 0, 4, t) = wrd 6 r 0 (N t % 256) := by
  unfold finW wrd
  simp only [show ¬ ((4 : Int) = 1) from by decide, show ¬ ((4 : Int) = 2) from by decide, show ¬ ((4 : Int) = 3) from by decide, if_true, if_false]
  omega
theorem finW_n5 {P N : Int → Int} {A r t : Int} : finW P N A (wrd 7 r 0 0, 5, t) = wrd 7 r 0 (N t / 256 % 256) := by
  unfold finW wrd
  simp only [show ¬ ((5 : Int) = 1) from by decide, show ¬ ((5 : Int) = 2) from by decide, show ¬ ((5 : Int) = 3) from by decide, show ¬ ((5 : Int) = 4) from by decide, if_true, if_false]
  omega
theorem finW_l {P N : Int → Int} {A w : Int} : finW P N A (lit w) = w := by
  unfold finW lit
  simp only [show ¬ ((0 : Int) = 1) from by decide, show ¬ ((0 : Int) = 2) from by decide, show ¬ ((0 : Int) = 3) from by decide, show ¬ ((0 : Int) = 4) from by decide, show ¬ ((0 : Int) = 5) from by decide, if_false, Int.add_zero]
theorem goS_I {wr : Int} {P N : Int → Int} {cur : Nat} {t lk : Int} {f : Bool} {S : lS} (hf : fB (S.2.2.2.1 cur) S.2.1 = f) (ht : t = P lk) : goS wr cur t S = cI wr P N cur (iGo f lk) S := by
  subst ht
  unfold goS iGo
  rw [hf]
  cases f with
  | true =>
    rw [if_pos rfl, if_pos rfl]
    unfold cI cI cI cI
    unfold cOne
    rw [finW_g2, finW_g3, finW_l]
    simp only [lit, show ¬ ((2 : Int) = 1) from by decide, show ¬ ((3 : Int) = 1) from by decide, show ¬ ((3 : Int) = 2) from by decide, show ¬ ((0 : Int) = 1) from by decide, show ¬ ((0 : Int) = 2) from by decide, if_true, if_false, false_or, or_true, false_and]
    have e1 : S.1 + 1 + 1 + 1 = S.1 + 3 := by omega
    rw [e1]
    rfl
  | false =>
    rw [if_neg (fun z => Bool.noConfusion z), if_neg (fun z => Bool.noConfusion z)]
    unfold cI cI
    unfold cOne
    rw [finW_g1]
    simp only [if_true, true_or, true_and]
    rfl
theorem plS_I {wr : Int} {P N : Int → Int} {cur : Nat} {r v t : Int} {S : lS} (hv : v = N t) : eS wr (cPl r v) S = cI wr P N cur (iNt r t) S := by
  subst hv
  unfold iNt cI cI cI
  have e1 : cOne wr P N cur (wrd 6 r 0 0, 4, t) S = eS wr [wrd 6 r 0 (N t % 256)] S := by
    unfold cOne eS
    rw [finW_n4]
    simp only [show ¬ ((4 : Int) = 1) from by decide, show ¬ ((4 : Int) = 2) from by decide, if_false, false_or, false_and]
    rfl
  have e2 : ∀ S, cOne wr P N cur (wrd 7 r 0 0, 5, t) S = eS wr [wrd 7 r 0 (N t / 256 % 256)] S := fun S => by
    unfold cOne eS
    rw [finW_n5]
    simp only [show ¬ ((5 : Int) = 1) from by decide, show ¬ ((5 : Int) = 2) from by decide, if_false, false_or, false_and]
    rfl
  rw [e1, e2, eS_app]
  rfl
/-- the model lays an item -/
def mOne (i : It) (T : mSt) : mSt := (T.1 + 1, vput T.2.1 T.1.toNat i.1, (if i.2.1 = 1 ∨ i.2.1 = 2 then T.2.2.1 + 1 else T.2.2.1), (if i.2.1 = 1 ∨ i.2.1 = 2 then vput T.2.2.2.1 T.2.2.1.toNat T.1 else T.2.2.2.1), (if i.2.1 = 1 ∨ i.2.1 = 2 then vput T.2.2.2.2.1 T.2.2.1.toNat i.2.2 else T.2.2.2.2.1), (if i.2.1 = 4 then T.2.2.2.2.2.1 + 1 else T.2.2.2.2.2.1), (if i.2.1 = 4 then vput T.2.2.2.2.2.2.1 T.2.2.2.2.2.1.toNat T.1 else T.2.2.2.2.2.2.1), (if i.2.1 = 4 then vput T.2.2.2.2.2.2.2 T.2.2.2.2.2.1.toNat i.2.2 else T.2.2.2.2.2.2.2))
def mI : List It → mSt → mSt
  | [], T => T
  | i :: l, T => mI l (mOne i T)
theorem mI_app : ∀ (l1 l2 : List It) (T : mSt), mI l2 (mI l1 T) = mI (l1 ++ l2) T
  | [], l2, T => rfl
  | i :: l1, l2, T => mI_app l1 l2 (mOne i T)
theorem tE_I : ∀ (ws : List Int) (T : mSt), tE ws T = mI (ws.map lit) T
  | [], T => by
    obtain ⟨A, r⟩ := T
    show (A + ((0 : Nat) : Int), r.1, r.2) = _
    rw [show A + ((0 : Nat) : Int) = A by omega]
    rfl
  | w :: ws, T => by
    have e : w :: ws = [w] ++ ws := rfl
    rw [e, ← tE_app, tE_I ws]
    rfl
theorem goM_I {f : Bool} {lk : Int} {T : mSt} : goM f lk T = mI (iGo f lk) T := by
  unfold goM iGo bGo
  cases f with
  | true =>
    rw [if_pos rfl, if_pos rfl]
    unfold mI mI mI mI
    unfold mOne
    simp only [lit, show ¬ ((2 : Int) = 1) from by decide, show ¬ ((3 : Int) = 1) from by decide, show ¬ ((3 : Int) = 2) from by decide, show ¬ ((0 : Int) = 1) from by decide, show ¬ ((0 : Int) = 2) from by decide, show ¬ ((2 : Int) = 4) from by decide, show ¬ ((3 : Int) = 4) from by decide, show ¬ ((0 : Int) = 4) from by decide, if_true, if_false, false_or, or_true, or_false]
    have e1 : T.1 + 1 + 1 + 1 = T.1 + (([wrd 6 5 0 0, wrd 7 5 0 0, wrd 13 5 5 0].length : Nat) : Int) := by
      show T.1 + 1 + 1 + 1 = T.1 + 3
      omega
    rw [e1]
    rfl
  | false =>
    rw [if_neg (fun z => Bool.noConfusion z), if_neg (fun z => Bool.noConfusion z)]
    rfl
theorem ntM_I {r t : Int} {T : mSt} : ntM r t T = mI (iNt r t) T := by
  unfold ntM iNt mI mI mI mOne
  simp only [show ¬ ((4 : Int) = 1) from by decide, show ¬ ((4 : Int) = 2) from by decide, show ¬ ((5 : Int) = 1) from by decide, show ¬ ((5 : Int) = 2) from by decide, show ¬ ((5 : Int) = 4) from by decide, if_true, if_false, or_false]
  have e1 : T.1 + 1 + 1 = T.1 + 2 := by omega
  rw [e1]
  rfl
