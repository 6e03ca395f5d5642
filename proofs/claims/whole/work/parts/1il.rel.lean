/-! THE RELATION between the model's meaning and the processor -/
def plE (M : Mem) (n i : Nat) : Int := if i + 1 < n then M 187 (i + 1) else M 158 68
def Pq (M : Mem) (t : Int) : Int := M 187 t.toNat
def vatq (M : Mem) : Nat → Int
  | 0 => 0
  | k + 1 => vatq M k + M 194 k
def Nq (M : Mem) (t : Int) : Int := if 0 ≤ t then M 187 t.toNat else if t = -1 then Bq M else M 158 68 + vatq M (-10 - t).toNat
def yq (M : Mem) (p i : Nat) : Int := if M 184 i = 2 ∨ M 184 i = 3 then (if M 185 i < M 188 p then M 185 i else M 185 i + 2) else if M 184 i = 6 ∨ M 184 i = 7 then M 194 (M 185 i).toNat else if M 184 i = 17 then M 191 (M 185 i).toNat else if M 184 i = 23 then M 189 (M 185 i).toNat else M 188 (M 185 i).toNat
def itq (M : Mem) (cs : Nat → List Int) (f0 f1 : Bool) (p i : Nat) : List It := itO (M 184 i) f0 f1 (M 186 i) (M 185 i) (yq M p i) (M 190 (M 185 i).toNat) (M 189 (M 185 i).toNat) (cs (M 185 i).toNat)
/-- a program that is laid, in the model's cells -/
def PRQ (M : Mem) (np n : Nat) (fe : Nat → Nat) (h u : Nat → Int) (nc : Int) (cs : Nat → List Int) : Prop := TyP (M 184) (M 185) (M 186) fe np n (M 188) (M 194) (M 158 71) nc (M 189) (M 190) h ∧ (∀ k, k + 1 < n → M 184 k = 23 ∨ M 184 k = 24 → M 184 (k + 1) = 24 ∨ M 184 (k + 1) = 25) ∧ (∀ p, p < np → ∀ i, fe p ≤ i → i < fe (p + 1) → ∃ f0 f1, WdOk (Pq M) (Nq M) (M 193) (itq M cs f0 f1 p i) (M 187 i) ∧ cX (Pq M) (itq M cs f0 f1 p i) (M 187 i) = false ∧ M 187 i + ((itq M cs f0 f1 p i).length : Int) = plE M n i) ∧ WdOk (Pq M) (Nq M) (M 193) (hdI (M 191 (M 158 67).toNat)) 0 ∧ (∀ i, i < n → 82 ≤ M 187 i ∧ M 187 i ≤ M 158 68) ∧ (82 ≤ M 158 68 ∧ 0 ≤ M 158 70 ∧ Bq M ≤ 6000) ∧ ((1 ≤ np ∧ np ≤ 40) ∧ n ≤ 1400 ∧ nc ≤ 30) ∧ ((0 ≤ M 158 71 ∧ M 158 71 ≤ 60) ∧ (∀ k : Nat, (k : Int) < M 158 71 → 1 ≤ M 194 k ∧ M 194 k ≤ 500) ∧ vatq M (M 158 71).toNat = M 158 70) ∧ (∀ p, p < np → M 191 p = (fe p : Int) ∧ M 188 p ≤ 8) ∧ (∀ p, p < np → (cs p).length ≤ 80 ∧ (∀ c ∈ cs p, 1 ≤ c ∧ c ≤ 30) ∧ ∀ c : Nat, c < 40 → M 192 (40 * p + c) = if (c : Int) ∈ cs p then 1 else 0) ∧ ((0 ≤ M 158 67 ∧ M 158 67 < (np : Int)) ∧ M 188 (M 158 67).toNat = 0) ∧ (∀ p, p < np → u (fe p + 1) ≤ M 188 p ∧ ∀ k, fe p < k → k < fe (p + 1) - 1 → (M 184 k = 2 → M 185 k < u k) ∧ (M 184 k = 3 → M 185 k ≤ u k) ∧ (u (k + 1) ≤ if M 184 k = 3 ∧ M 185 k = u k then u k + 1 else u k) ∧ (isR (M 184 k) ∨ isJ (M 184 k) → u (M 186 k).toNat ≤ u k))
/-- the meaning leaves all cells but its own -/
def KMq (M m : Mem) : Prop := ∀ a k, (a < 210 ∨ 215 < a ∨ a = 214) → (a = 158 → k ≠ 108 ∧ k ≠ 111 ∧ k ≠ 114 ∧ k ≠ 115) → m a k = M a k
def hq (M : Mem) (h : Nat → Int) (i : Nat) : Int := if M 184 i = 23 ∨ M 184 i = 26 then 0 else h i
def limq (M : Mem) (h : Nat → Int) (fb : Nat → Int) (f p i : Nat) : Int := fb (f - 1) + M 189 p - 2 + hq M h i
def IOq (M m : Mem) (tk ou : Int) (sn : Nat → Int) : Prop := (m 158 114 = tk ∧ 0 ≤ tk ∧ tk ≤ M 158 103) ∧ (m 158 115 = ou ∧ 0 ≤ ou) ∧ ∀ k : Nat, (k : Int) < ou → k < 500 → m 215 k = sg (sn k)
def RELq (M : Mem) (np : Nat) (fe : Nat → Nat) (h u : Nat → Int) (pf : Nat → Nat) (f p i : Nat) (c : Int) (m : Mem) (r7 : Int) (Y : Nat → Int) (tk ou : Int) (sn : Nat → Int) : Prop := KMq M m ∧ (m 158 111 = (f : Int) ∧ 1 ≤ f ∧ pf (f - 1) = p ∧ p < np) ∧ (fe p < i ∧ i < fe (p + 1)) ∧ ((0 ≤ c ∧ c ≤ 30) ∧ (c = 0 ∨ 23 ≤ M 184 i)) ∧ (¬ (M 184 i = 23 ∨ M 184 i = 26) → m 158 108 = limq M h (m 211) f p i ∧ r7 = Bq M + limq M h (m 211) f p i + 2 * (f : Int)) ∧ FRM M np fe h u pf (m 211) (m 212) (m 210) Y f (limq M h (m 211) f p i) (u i) ∧ VRq M (m 213) Y ∧ IOq M m tk ou sn
def RELx (M : Mem) (np : Nat) (fe : Nat → Nat) (h u : Nat → Int) (i c : Int) (m : Mem) (S : Ps) : Prop := ∃ pf f p, ∃ iN : Nat, ∃ r0 r1 r2 r3 r5 r7 Y tk ou sn, i = (iN : Int) ∧ S = (M 187 iN, R8 r0 r1 r2 r3 c r5 (PBq M (m 211) (f - 1)) r7, Y, tk, ou, sn) ∧ RELq M np fe h u pf f p iN c m r7 Y tk ou sn
/-- the processor runs at least q clocks -/
def RnC (q n : Nat) (W : Nat → Int) (ni : Int) (ip : Nat → Int) (S S' : Ps) : Prop := ∀ m, Rst n W ni ip S m → ∃ k, q ≤ k ∧ Rst n W ni ip S' (tikn k m)
theorem RnC_2 {n : Nat} {W : Nat → Int} {ni : Int} {ip : Nat → Int} {S S' : Ps} (h : Rn n W ni ip S S') : RnC 2 n W ni ip S S' := h
theorem RnC_tr {a b n : Nat} {W : Nat → Int} {ni : Int} {ip : Nat → Int} {S T U : Ps} (h1 : RnC a n W ni ip S T) (h2 : RnC b n W ni ip T U) : RnC (a + b) n W ni ip S U := fun m hm => by
  obtain ⟨k, k0, k1⟩ := h1 m hm
  obtain ⟨j, j0, j1⟩ := h2 _ k1
  exact ⟨k + j, by omega, by rw [tikn_add]; exact j1⟩
/-- what may come next -/
def NXT (F d L : Nat) (xs : Nat → Int32) (M : Mem) (np : Nat) (fe : Nat → Nat) (h u : Nat → Int) (i c : Int) (m : Mem) (S : Ps) : Prop := (∃ q i' c' m' S', 2 ≤ q ∧ RnC q (M 158 68).toNat (M 193) (M 158 103) (M 208) S S' ∧ TSt F (d + 4) L xs i c m i' c' m' ∧ RELx M np fe h u i' c' m' S' ∧ 5 * m' 158 111 + 1 ≤ 5 * m 158 111 + (q : Int) ∧ m' 158 115 + 1 ≤ m 158 115 + (q : Int)) ∨ (∃ r ou sn, Re (M 158 68).toNat (M 193) (M 158 103) (M 208) S r ou sn ∧ r 4 = 65535) ∨ (∃ r ou sn c' m', Re (M 158 68).toNat (M 193) (M 158 103) (M 208) S r ou sn ∧ TEn F (d + 4) L xs i c m c' m' ∧ r 4 = c' ∧ (0 ≤ c' ∧ c' ≤ 30) ∧ KMq M m' ∧ (m' 158 115 = ou ∧ 0 ≤ ou) ∧ (m' 158 115 ≤ m 158 115) ∧ ∀ k : Nat, (k : Int) < ou → k < 500 → m' 215 k = sg (sn k))
section Rel
variable {M m m' : Mem} {np n : Nat} {fe : Nat → Nat} {h u : Nat → Int} {nc : Int} {cs : Nat → List Int} {pf : Nat → Nat} {f p i : Nat} {c r7 tk ou : Int} {Y Y' sn : Nat → Int}
/-- sizes of procs -/
theorem PR_s (Q : PRQ M np n fe h u nc cs) {p : Nat} (hp : p < np) : ∃ ml mx, M 189 p = ml + 2 ∧ M 190 p = ml + 2 - M 188 p + mx + 3 ∧ (0 ≤ M 188 p ∧ M 188 p ≤ ml ∧ M 188 p ≤ 8 ∧ ml - M 188 p ≤ 16) ∧ (0 ≤ mx ∧ mx ≤ 3000) ∧ TyQ1 (M 184) (M 185) (M 186) fe np (M 188) (M 194) (M 158 71) nc h ml mx p ∧ (fe p + 4 ≤ fe (p + 1) ∧ fe (p + 1) ≤ n) ∧ (M 184 (fe p) = 0 ∧ M 185 (fe p) = (p : Int)) ∧ (M 184 (fe (p + 1) - 1) = 26 ∧ M 185 (fe (p + 1) - 1) = (p : Int)) := by
  obtain ⟨⟨S, hn, T⟩, -, -, -, -, -, -, -, hE, -, -, -⟩ := Q
  obtain ⟨ml, mx, t1, t2, t3, t4⟩ := T p hp
  obtain ⟨s1, s2, s3, s4⟩ := S.2 p hp
  have := t1.1
  have h8 := (hE p hp).2
  have hmo := sg_mo S (p := p + 1) np (by omega) (Nat.le_refl _)
  exact ⟨ml, mx, t2, t3, ⟨by omega, by omega, h8, t4⟩, by omega, t1, ⟨s1, by omega⟩, s2, s3⟩
theorem PR_S (Q : PRQ M np n fe h u nc cs) : ∀ p, p < np → 0 ≤ M 188 p ∧ M 188 p + 2 ≤ M 189 p := fun p hp => by
  obtain ⟨ml, mx, a, b, c, -⟩ := PR_s Q hp
  omega
theorem PR_B (Q : PRQ M np n fe h u nc cs) : 0 ≤ M 158 68 ∧ 0 ≤ Bq M ∧ (M 158 68).toNat ≤ 8192 ∧ 82 ≤ (M 158 68).toNat ∧ (((M 158 68).toNat : Nat) : Int) = M 158 68 ∧ M 158 68 ≤ Bq M ∧ Bq M ≤ 6000 := by
  have := Q.2.2.2.2.2.1
  unfold Bq at *
  omega
/-- the height at the order behind is the height told -/
theorem hq_n (Q : PRQ M np n fe h u nc cs) (hp : p < np) (h1 : fe p < i) (h2 : i < fe (p + 1)) : hq M h i = h i ∧ 0 ≤ h i := by
  obtain ⟨ml, mx, -, -, -, -, ⟨-, b1, -, T⟩, ⟨f1, -⟩, -, ⟨g1, -⟩⟩ := PR_s Q hp
  unfold hq
  by_cases e : i = fe (p + 1) - 1
  · subst e
    rw [b1.2, if_pos (Or.inr g1)]
    exact ⟨rfl, Int.le_refl 0⟩
  · obtain ⟨t1, -⟩ := T i h1 (by omega)
    have hh : 0 ≤ h i := by
      have q := t1.2.1
      have u : 0 ≤ popF (M 188) (M 184 i) (M 185 i) := by
        unfold popF
        by_cases c17 : M 184 i = 17
        · rw [if_pos c17]
          have q := t1.2.2.2.2.2.2.2.1 c17
          have := PR_S Q (M 185 i).toNat (by omega)
          omega
        · rw [if_neg c17]
          split
          · omega
          · split <;> omega
      omega
    refine ⟨?_, hh⟩
    by_cases c : M 184 i = 23 ∨ M 184 i = 26
    · rw [if_pos c]
      have o := t1.1
      exact (t1.2.2.2.2.2.2.2.2.2.2.1 (by omega)).symm
    · rw [if_neg c]
/-- the heights stay below the most -/
theorem h_mx (Q : PRQ M np n fe h u nc cs) {ml mx : Int} (hp : p < np) (T : TyQ1 (M 184) (M 185) (M 186) fe np (M 188) (M 194) (M 158 71) nc h ml mx p) (h1 : fe p < i) (h2 : i < fe (p + 1)) : h i ≤ mx := by
  obtain ⟨b0, b1, -, T⟩ := T
  by_cases e : i = fe p + 1
  · rw [e, b1.1]
    omega
  · have := (T (i - 1) (by omega) (by omega)).2.2.1
    rw [show i - 1 + 1 = i from by omega] at this
    exact this
/-- a place of words in memory -/
theorem FR_g (Q : PRQ M np n fe h u nc cs) (R : RELq M np fe h u pf f p i c m r7 Y tk ou sn) : ∃ ml mx, (M 189 p = ml + 2 ∧ M 190 p = ml + 2 - M 188 p + mx + 3) ∧ (0 ≤ M 188 p ∧ M 188 p ≤ ml ∧ M 188 p ≤ 8 ∧ ml - M 188 p ≤ 16) ∧ (0 ≤ h i ∧ h i ≤ mx ∧ mx ≤ 3000) ∧ limq M h (m 211) f p i = m 211 (f - 1) + ml + h i ∧ (0 ≤ m 211 (f - 1) ∧ PBq M (m 211) (f - 1) = Bq M + m 211 (f - 1) + 2 * ((f : Int) - 1) ∧ PBq M (m 211) (f - 1) + ml + mx + 5 ≤ 8192) ∧ TyQ1 (M 184) (M 185) (M 186) fe np (M 188) (M 194) (M 158 71) nc h ml mx p ∧ fe (p + 1) ≤ n ∧ (m 211 (f - 1) + M 188 (pf (f - 1)) ≤ m 211 (f - 1) + ml) := by
  obtain ⟨-, ⟨f1, f2, f3, f4⟩, ⟨i1, i2⟩, -, -, FR, -⟩ := R
  obtain ⟨ml, mx, a, b, c, d, T, ⟨e1, e2⟩, -⟩ := PR_s Q f4
  obtain ⟨q1, q2⟩ := hq_n Q f4 i1 i2
  obtain ⟨j1, j2, j3, -⟩ := FR.1 (f - 1) (by omega)
  rw [f3] at j1 j3 ⊢
  refine ⟨ml, mx, ⟨a, b⟩, c, ⟨q2, h_mx Q f4 T i1 i2, d.2⟩, ?_, ⟨j2, ?_, by omega⟩, T, e2, by omega⟩
  · unfold limq
    rw [q1, a]
    omega
  · unfold PBq
    omega
/-- one that pops some and puts one, in its frame -/
theorem RL_psh {pp v i2 : Int} {s0 s1 s2 s3 s5 tk' : Int} (Q : PRQ M np n fe h u nc cs) (R : RELq M np fe h u pf f p i c m r7 Y tk ou sn) (hc : c = 0) (hno : ¬ (M 184 i = 23 ∨ M 184 i = 26)) (hi : i + 1 < fe (p + 1)) (hh : h (i + 1) = h i - pp + 1) (hu : u (i + 1) ≤ u i) (hpp : 0 ≤ pp ∧ pp ≤ h i) (hv : -32768 ≤ v ∧ v ≤ 32767) (K : KMq M m') (e11 : m' 158 111 = m 158 111) (e8 : m' 158 108 = m 158 108 - pp + 1) (e211 : m' 211 = m 211) (e212 : m' 212 = m 212) (e213 : m' 213 = m 213) (hX : ∀ k : Nat, (k : Int) < m 158 108 - pp → m' 210 k = m 210 k) (hX2 : m' 210 (m 158 108 - pp).toNat = v) (hY : ∀ a : Nat, (a : Int) < r7 - pp → Y' a = Y a) (hY2 : Y' (r7 - pp).toNat = v % 65536) (hio : IOq M m' tk' ou sn) (ei : i2 = (i : Int) + 1) : RELx M np fe h u i2 0 m' (M 187 (i + 1), R8 s0 s1 s2 s3 0 s5 (PBq M (m 211) (f - 1)) (r7 - pp + 1), Y', tk', ou, sn) := by
  obtain ⟨ml, mx, ⟨a, b⟩, c1, c2, c3, ⟨c4, c5, c6⟩, T, c7, c8⟩ := FR_g Q R
  obtain ⟨B1, B2, -, -, -, B3, -⟩ := PR_B Q
  have hS := PR_S Q
  obtain ⟨k, ⟨f1, f2, f3, f4⟩, ⟨i1, i2'⟩, cc, tp, FR, VR, io⟩ := R
  obtain ⟨t1, t2⟩ := tp hno
  rw [c3] at t1 t2 FR
  obtain ⟨n1, n2⟩ := hq_n Q f4 (i := i + 1) (by omega) hi
  have el : limq M h (m' 211) f p (i + 1) = m 211 (f - 1) + ml + h i - pp + 1 := by
    unfold limq
    rw [n1, e211, hh, a]
    omega
  refine ⟨pf, f, p, i + 1, s0, s1, s2, s3, s5, r7 - pp + 1, Y', tk', ou, sn, by omega, by rw [e211], K, ⟨by rw [e11]; exact f1, f2, f3, f4⟩, ⟨by omega, hi⟩, ⟨by omega, Or.inl rfl⟩, fun _ => ?_, ?_, ?_, hio⟩
  · rw [el, e8, t1, t2]
    exact ⟨by omega, by omega⟩
  · rw [el, e211, e212]
    have U := FRM_up (lim' := m 211 (f - 1) + ml + h i - pp) B2 hS FR f2 (by omega) (by omega) hu (X' := m 210) (Y' := Y) (fun _ _ => rfl) (fun _ _ _ => rfl)
    exact FRM_push (v := v) B2 hS U f2 (by rw [f3]; omega) (fun q hq => hX q (by omega)) (by rw [show (m 211 (f - 1) + ml + h i - pp).toNat = (m 158 108 - pp).toNat from by omega]; exact hX2) hv (fun q _ hq => hY q (by omega)) (by rw [show Bq M + (m 211 (f - 1) + ml + h i - pp) + 2 * (f : Int) = r7 - pp from by omega]; exact hY2)
  · rw [e213]
    exact VR_up B1 VR (fun q hq => hY q (by omega))
/-- one that pops some, in its frame -/
theorem RL_pop {pp i2 : Int} {j : Nat} {s0 s1 s2 s3 s5 ou' : Int} {sn' : Nat → Int} (Q : PRQ M np n fe h u nc cs) (R : RELq M np fe h u pf f p i c m r7 Y tk ou sn) (hno : ¬ (M 184 i = 23 ∨ M 184 i = 26)) (hj : fe p < j ∧ j < fe (p + 1)) (hh : h j = h i - pp) (hu : u j ≤ u i) (hpp : 0 ≤ pp ∧ pp ≤ h i) {c2 : Int} (hc2 : (0 ≤ c2 ∧ c2 ≤ 30) ∧ (c2 = 0 ∨ 23 ≤ M 184 j)) (K : KMq M m') (e11 : m' 158 111 = m 158 111) (e8 : m' 158 108 = m 158 108 - pp) (e211 : m' 211 = m 211) (e212 : m' 212 = m 212) (e213 : m' 213 = m 213) (hX : ∀ k : Nat, (k : Int) < m 158 108 - pp → m' 210 k = m 210 k) (hY : ∀ a : Nat, (a : Int) < r7 - pp → Y' a = Y a) (hio : IOq M m' tk ou' sn') (ei : i2 = (j : Int)) : RELx M np fe h u i2 c2 m' (M 187 j, R8 s0 s1 s2 s3 c2 s5 (PBq M (m 211) (f - 1)) (r7 - pp), Y', tk, ou', sn') := by
  obtain ⟨ml, mx, ⟨a, b⟩, c1, c2', c3, ⟨c4, c5, c6⟩, T, c7, c8⟩ := FR_g Q R
  obtain ⟨B1, B2, -, -, -, B3, -⟩ := PR_B Q
  have hS := PR_S Q
  obtain ⟨k, ⟨f1, f2, f3, f4⟩, ⟨i1, i2'⟩, cc, tp, FR, VR, io⟩ := R
  obtain ⟨t1, t2⟩ := tp hno
  rw [c3] at t1 t2 FR
  obtain ⟨n1, n2⟩ := hq_n Q f4 (i := j) hj.1 hj.2
  have el : limq M h (m' 211) f p j = m 211 (f - 1) + ml + h i - pp := by
    unfold limq
    rw [n1, e211, hh, a]
    omega
  refine ⟨pf, f, p, j, s0, s1, s2, s3, s5, r7 - pp, Y', tk, ou', sn', ei, by rw [e211], K, ⟨by rw [e11]; exact f1, f2, f3, f4⟩, hj, hc2, fun _ => ?_, ?_, ?_, hio⟩
  · rw [el, e8, t1, t2]
    exact ⟨by omega, by omega⟩
  · rw [el, e211, e212]
    exact FRM_up B2 hS FR f2 (by omega) (by omega) hu (fun q hq => hX q (by omega)) (fun q _ hq => hY q (by omega))
  · rw [e213]
    exact VR_up B1 VR (fun q hq => hY q (by omega))
/-- one that goes to the handler -/
theorem RL_flt {pp i2 : Int} {j : Nat} {s0 s1 s2 s3 s5 c2 s7 : Int} (Q : PRQ M np n fe h u nc cs) (R : RELq M np fe h u pf f p i c m r7 Y tk ou sn) (hno : ¬ (M 184 i = 23 ∨ M 184 i = 26)) (hj : fe p < j ∧ j < fe (p + 1)) (hO : M 184 j = 23 ∨ M 184 j = 26) (hu : u j ≤ u i) (hpp : 0 ≤ pp ∧ pp ≤ h i) (hc2 : 0 ≤ c2 ∧ c2 ≤ 30) (hY : ∀ a : Nat, (a : Int) < r7 - pp → Y' a = Y a) (ei : i2 = (j : Int)) : RELx M np fe h u i2 c2 m (M 187 j, R8 s0 s1 s2 s3 c2 s5 (PBq M (m 211) (f - 1)) s7, Y', tk, ou, sn) := by
  obtain ⟨ml, mx, ⟨a, b⟩, c1, c2', c3, ⟨c4, c5, c6⟩, T, c7, c8⟩ := FR_g Q R
  obtain ⟨B1, B2, -, -, -, B3, -⟩ := PR_B Q
  have hS := PR_S Q
  obtain ⟨k, ⟨f1, f2, f3, f4⟩, ⟨i1, i2'⟩, cc, tp, FR, VR, io⟩ := R
  obtain ⟨t1, t2⟩ := tp hno
  rw [c3] at t1 t2 FR
  have el : limq M h (m 211) f p j = m 211 (f - 1) + ml := by
    unfold limq hq
    rw [if_pos hO, a]
    omega
  refine ⟨pf, f, p, j, s0, s1, s2, s3, s5, s7, Y', tk, ou, sn, ei, rfl, k, ⟨f1, f2, f3, f4⟩, hj, ⟨hc2, Or.inr (by omega)⟩, fun w => absurd hO w, ?_, ?_, io⟩
  · rw [el]
    exact FRM_up B2 hS FR f2 (by omega) (by omega) hu (fun q hq => rfl) (fun q _ hq => hY q (by omega))
  · exact VR_up B1 VR (fun q hq => hY q (by omega))
end Rel
