/-! THE CLASS'S ORDERS MAY BE LAID, and they are the model's -/
section Cyl
variable {m M : Mem} {cd : Nat} {fe : Nat → Nat} {np n : Nat} {nv nc mn : Int} {sz wt h : Nat → Int}
theorem qu_o (hc : cd = 83 ∨ cd = 93) {Q : Nat → Int} {i5 p6 w3 s : Int} {a k : Nat} (h1 : a ≠ 71) (h2 : a ≠ cd) (h3 : a ≠ cd + 4) : qv cd Q i5 p6 (uv cd w3 s m) a k = m a k := by
  unfold qv uv
  rw [if_neg h1, if_neg h3, if_neg h1, if_neg h2]
theorem uv_o (hc : cd = 83 ∨ cd = 93) {w3 s : Int} {a k : Nat} (h1 : a ≠ 71) (h2 : a ≠ cd) : uv cd w3 s m a k = m a k := by
  unfold uv
  rw [if_neg h1, if_neg h2]
theorem uv_c (hc : cd = 83 ∨ cd = 93) {w3 s : Int} {k : Nat} (h : k ≠ 12) : uv cd w3 s m cd k = m cd k := by
  unfold uv
  rw [if_neg (by omega), if_pos rfl, if_neg h]
theorem mnC_f (hf : fst1 (m 58) 660205 0 (m 57 4).toNat ≠ -1) : mnC m = if kI m (fst1 (m 58) 660205 0 (m 57 4).toNat) = 4 ∧ prm m (nmI m (fst1 (m 58) 660205 0 (m 57 4).toNat)) = 0 then nmI m (fst1 (m 58) 660205 0 (m 57 4).toNat) else -1 := by
  have e1 : idM m 660205 = m := if_neg hf
  have e2 : idv m 660205 = fst1 (m 58) 660205 0 (m 57 4).toNat := if_neg hf
  unfold mnC
  rw [e1, e2]
/-- what must hold of the class's cells -/
def CDt (m : Mem) (cd : Nat) (M : Mem) (fe : Nat → Nat) (np n : Nat) (nv mn : Int) (sz wt : Nat → Int) : Prop := (cd = 83 ∨ cd = 93) ∧ (m 71 1 = (cd : Int) ∧ m cd 0 = (n : Int)) ∧ (∀ i, i < n → m (cd + 1) i = M 177 i ∧ m (cd + 2) i = M 178 i ∧ m (cd + 3) i = tgM M i) ∧ (m 57 5 = nv ∧ m 57 7 = (np : Int) ∧ m 57 14 = M 158 36 ∧ (0 ≤ m 57 4 ∧ m 57 4 < 1510) ∧ m 57 8 = vsm M nv.toNat) ∧ (∀ k : Nat, (k : Int) < nv → m 63 k = M 168 k ∧ m 62 k = vsm M k) ∧ (∀ p, p < np → m (cd + 5) p = M 170 p ∧ m (cd + 6) p = sz p ∧ m (cd + 7) p = wt p ∧ m (cd + 8) p = (fe p : Int) ∧ M 182 p = (fe p : Int)) ∧ (∀ p, -1000000 ≤ PAc m cd p ∧ PAc m cd p ≤ 1000000) ∧ (∀ p, p < np → m 66 p = M 173 p ∧ m 66 (p + 1) = M 173 p + M 174 p) ∧ (∀ k : Nat, (k : Int) < M 158 36 → nmI m (m 65 k) = M 175 k) ∧ (∀ f : Int, -1000000 ≤ nmI m f ∧ nmI m f ≤ 1000000) ∧ fst1 (m 58) 660205 0 (m 57 4).toNat ≠ -1 ∧ mnC m = mn ∧ (0 ≤ mn ∧ mn < (np : Int))
theorem sg_cpC {O A : Nat → Int} (G : SGs O A fe np) {p : Nat} (hp : p < np) (ho : ∀ i, i < fe (p + 1) → m (cd + 1) i = O i ∧ m (cd + 2) i = A i) {p0 : Int} : ∀ i, fe p ≤ i → i < fe (p + 1) → cpC m cd p0 (i + 1) = PAc m cd (p : Int)
  | 0 => fun h1 h2 => by
    have z := (G.2 p hp).2.1
    have e0 : fe p = 0 := by omega
    rw [e0] at z
    obtain ⟨o1, o2⟩ := ho 0 h2
    show (if m (cd + 1) 0 = 0 then PAc m cd (m (cd + 2) 0) else p0) = _
    rw [o1, o2, if_pos z.1, z.2]
  | i + 1 => fun h1 h2 => by
    obtain ⟨o1, o2⟩ := ho (i + 1) h2
    show (if m (cd + 1) (i + 1) = 0 then PAc m cd (m (cd + 2) (i + 1)) else cpC m cd p0 (i + 1)) = _
    rw [o1, o2]
    rcases sg_op G hp h1 h2 with ⟨a, b, c⟩ | ⟨a, b, c⟩ | ⟨a, b, c⟩
    · rw [if_pos a, b]
    · have := (G.2 p hp).1
      rw [if_neg (by omega)]
      exact sg_cpC G hp ho i (by omega) (by omega)
    · rw [if_neg (by omega)]
      exact sg_cpC G hp ho i (by omega) (by omega)
theorem cq_cur : ∀ i, cq M 0 i = cur (M 177) (M 178) 0 i
  | 0 => rfl
  | i + 1 => by
    show (if M 177 i = 0 then M 178 i else cq M 0 i) = if M 177 i = 0 then M 178 i else cur (M 177) (M 178) 0 i
    rw [cq_cur i]
theorem rc_eq {b : Int} (h : ∀ k : Nat, (k : Int) < b → nmI m (m 65 k) = M 175 k) : ∀ (j : Nat) (f : Int), 0 ≤ f → f + j ≤ b → rcL m f j = rcM M f j
  | 0, f => fun _ _ => rfl
  | j + 1, f => fun h0 h1 => by
    show nmI m (m 65 f.toNat) :: rcL m (f + 1) j = M 175 f.toNat :: rcM M (f + 1) j
    rw [h f.toNat (by omega), rc_eq h j (f + 1) (by omega) (by omega)]
theorem CL_LX (hc : cd = 83 ∨ cd = 93) {Q : Nat → Int} {i5 p6 w3 s : Int} (x1 : m 71 1 = (cd : Int)) (x0 : m cd 0 ≤ 3000) (x5 : m 57 5 ≤ 60) (xv : ∀ v : Nat, (v : Int) < m 57 5 → (0 ≤ m 62 v ∧ m 62 v ≤ 1000000) ∧ (0 ≤ m 63 v ∧ m 63 v ≤ 500)) (xPA : ∀ p, -1000000 ≤ PAc m cd p ∧ PAc m cd p ≤ 1000000) (xF : ∀ p, 0 ≤ p ∧ p < m 57 7 → (-1000000 ≤ FRc m cd p ∧ FRc m cd p ≤ 1000000) ∧ (-1000000 ≤ WAc m cd p ∧ WAc m cd p ≤ 1000000)) (hw : w3 = 0 ∨ w3 = 1) (hs : 0 ≤ s ∧ s ≤ 1000000) (hQ : ∀ k : Nat, 0 ≤ Q k ∧ Q k ≤ 1000000) (hi5 : 0 ≤ i5 ∧ i5 < 3000) (hp6 : -1000000 ≤ p6 ∧ p6 ≤ 1000000) : LX cd (qv cd Q i5 p6 (uv cd w3 s m)) := by
  have q : ∀ a k, a ≠ 71 → a ≠ cd → a ≠ cd + 4 → qv cd Q i5 p6 (uv cd w3 s m) a k = m a k := fun a k a1 a2 a3 => qu_o hc a1 a2 a3
  have qc : ∀ k, k ≠ 12 → qv cd Q i5 p6 (uv cd w3 s m) cd k = m cd k := fun k hk => by
    unfold qv
    rw [if_neg (by omega), if_neg (by omega)]
    exact uv_c hc hk
  have q12 : qv cd Q i5 p6 (uv cd w3 s m) cd 12 = s := by
    unfold qv uv
    rw [if_neg (by omega), if_neg (by omega), if_neg (by omega), if_pos rfl, if_pos rfl]
  have q5 := q 57 5 (by decide) (by omega) (by omega)
  refine ⟨⟨hc, x1, hw⟩, hi5, by rw [qc 0 (by decide)]; exact x0, fun i => ?_, by rw [q12]; exact hs, by rw [q5]; omega, fun v => ?_, fun v => ?_, fun p => ?_, fun p hp => ?_, fun p hp => ?_, hp6⟩
  · unfold PLc
    split
    · exact ⟨Int.le_refl 0, by decide⟩
    · have e4 : qv cd Q i5 p6 (uv cd w3 s m) (cd + 4) i.toNat = Q i.toNat := by
        unfold qv
        rw [if_neg (by omega), if_pos rfl]
      rw [e4]
      exact hQ _
  · unfold OFc
    rw [q5, q 62 _ (by decide) (by omega) (by omega)]
    split
    · exact ⟨Int.le_refl 0, by decide⟩
    · exact (xv v.toNat (by omega)).1
  · unfold LNc
    rw [q5, q 63 _ (by decide) (by omega) (by omega)]
    split
    · exact ⟨by decide, by decide⟩
    · have := (xv v.toNat (by omega)).2
      exact ⟨by omega, by omega⟩
  · have e1 : PAc (qv cd Q i5 p6 (uv cd w3 s m)) cd p = PAc m cd p := by
      unfold PAc
      rw [q _ _ (by omega) (by omega) (by omega)]
    rw [e1]
    exact xPA p
  · rw [q 57 7 (by decide) (by omega) (by omega)] at hp
    have e1 : FRc (qv cd Q i5 p6 (uv cd w3 s m)) cd p = FRc m cd p := by
      unfold FRc
      rw [q _ _ (by omega) (by omega) (by omega)]
    rw [e1]
    exact (xF p hp).1
  · rw [q 57 7 (by decide) (by omega) (by omega)] at hp
    have e1 : WAc (qv cd Q i5 p6 (uv cd w3 s m)) cd p = WAc m cd p := by
      unfold WAc
      rw [q _ _ (by omega) (by omega) (by omega)]
    rw [e1]
    exact (xF p hp).2
theorem CL_CO (hc : cd = 83 ∨ cd = 93) {w3 s o x l : Int} (mo : MO M o x l) (h17 : o = 17 → 0 ≤ ENc m cd x) (h26 : o = 26 → (0 ≤ x ∧ x < m 57 7) ∧ 0 ≤ m 66 x.toNat ∧ m 66 (x + 1).toNat ≤ m 57 14 ∧ m 66 x.toNat ≤ m 66 (x + 1).toNat ∧ m 66 (x + 1).toNat ≤ 1510 ∧ m 66 (x + 1).toNat - m 66 x.toNat ≤ 600) (h0 : o = 0 → 0 ≤ x ∧ x < m 57 7) : CO (uv cd w3 s m) cd o x := by
  obtain ⟨m1, m2, m3, m4, -⟩ := mo
  have u : ∀ k, uv cd w3 s m 57 k = m 57 k := fun k => uv_o hc (by decide) (by omega)
  have u6 : ∀ k, uv cd w3 s m 66 k = m 66 k := fun k => uv_o hc (by decide) (by omega)
  have e1 : ENc (uv cd w3 s m) cd x = ENc m cd x := by
    unfold ENc
    rw [uv_o hc (by omega) (by omega)]
  refine ⟨m1, m2, fun w => (m3 (by omega)).1, fun w => by rw [e1]; exact h17 w, m4, fun w => ?_, fun w => by rw [u]; exact h0 w⟩
  rw [u, u, u6, u6]
  exact h26 w
theorem CL_mn (hc : cd = 83 ∨ cd = 93) {Q : Nat → Int} {i5 p6 w3 s : Int} (xf : fst1 (m 58) 660205 0 (m 57 4).toNat ≠ -1) : mnC (qv cd Q i5 p6 (uv cd w3 s m)) = mnC m := by
  have q : ∀ a k, a ≠ 71 → a ≠ cd → a ≠ cd + 4 → qv cd Q i5 p6 (uv cd w3 s m) a k = m a k := fun a k a1 a2 a3 => qu_o hc a1 a2 a3
  have q58 : qv cd Q i5 p6 (uv cd w3 s m) 58 = m 58 := funext fun k => q 58 k (by decide) (by omega) (by omega)
  have q4 := q 57 4 (by decide) (by omega) (by omega)
  have k1 : kI (qv cd Q i5 p6 (uv cd w3 s m)) = kI m := by
    funext i
    unfold kI
    rw [q4, q 59 _ (by decide) (by omega) (by omega)]
  have k2 : nmI (qv cd Q i5 p6 (uv cd w3 s m)) = nmI m := by
    funext i
    unfold nmI
    rw [q4, q 60 _ (by decide) (by omega) (by omega)]
  have k3 : prm (qv cd Q i5 p6 (uv cd w3 s m)) = prm m := by
    funext i
    unfold prm
    rw [q 57 7 (by decide) (by omega) (by omega), q 64 _ (by decide) (by omega) (by omega)]
  rw [mnC_f xf, mnC_f (by rw [q58, q4]; exact xf), k1, k2, k3, q58, q4]
/-- the class's cells of procs -/
def CPr (m : Mem) (cd : Nat) (M : Mem) (fe : Nat → Nat) (np : Nat) : Prop := ∀ p : Nat, p < np → PAc m cd (p : Int) = M 170 p ∧ (FRc m cd (p : Int) = szM M p ∧ 0 ≤ szM M p ∧ szM M p ≤ 1600) ∧ (WAc m cd (p : Int) = wtM M p ∧ 0 ≤ wtM M p ∧ wtM M p ≤ 5000) ∧ ENc m cd (p : Int) = (fe p : Int) ∧ M 182 p = (fe p : Int)
theorem CPr_mk (T : TyP (M 177) (M 178) (tgM M) fe np n (M 170) (M 168) nv nc sz wt h) (h40 : np ≤ 40) (hsz : ∀ p, p < np → sz p = M 170 p + 2 + M 171 p) (hwt : ∀ p, p < np → wt p = w32 (2 + M 171 p + M 183 p + 3)) (xp : ∀ p, p < np → m (cd + 5) p = M 170 p ∧ m (cd + 6) p = sz p ∧ m (cd + 7) p = wt p ∧ m (cd + 8) p = (fe p : Int) ∧ M 182 p = (fe p : Int)) : CPr m cd M fe np := fun p hp => by
  obtain ⟨-, -, hq⟩ := T
  obtain ⟨ml, mx, ⟨q1, -⟩, q5, q6, q7⟩ := hq p hp
  have e1 : szM M p = sz p := by
    unfold szM
    rw [w32_l, hsz p hp]
    have := hsz p hp
    exact w32_of (by omega) (by omega)
  have e2 : wtM M p = wt p := by
    unfold wtM
    rw [hwt p hp, w32_l, show w32 (2 + M 171 p) + M 183 p + 3 = w32 (2 + M 171 p) + (M 183 p + 3) by omega, w32_l, show 2 + M 171 p + (M 183 p + 3) = 2 + M 171 p + M 183 p + 3 by omega]
  obtain ⟨x1, x2, x3, x4, x5⟩ := xp p hp
  have hi : ¬ ((p : Int) < 0 ∨ 40 ≤ (p : Int)) := by omega
  unfold PAc FRc WAc ENc
  rw [if_neg hi, if_neg hi, if_neg hi, if_neg hi, Int.toNat_natCast, e1, e2]
  exact ⟨x1, ⟨x2, by omega, by omega⟩, ⟨x3, by omega, by omega⟩, x4, x5⟩
theorem CL_DO {i p : Nat} (S : SGs (M 177) (M 178) fe np) (hp : p < np) (f1 : fe p ≤ i) (f2 : i < fe (p + 1)) (hO : ∀ j, j < fe (p + 1) → m (cd + 1) j = M 177 j ∧ m (cd + 2) j = M 178 j) (y3 : m (cd + 3) i = tgM M i) (hg : 0 < gNo (M 177 i) → 0 ≤ tgM M i) (h67 : M 177 i = 6 ∨ M 177 i = 7 → 0 ≤ M 178 i ∧ M 178 i < nv) (h17 : M 177 i = 17 → 0 ≤ M 178 i ∧ M 178 i < (np : Int)) (x5 : m 57 5 = nv) (xv : ∀ k : Nat, (k : Int) < nv → m 63 k = M 168 k) (C : CPr m cd M fe np) (xr : m 66 p = M 173 p ∧ m 66 (p + 1) = M 173 p + M 174 p) (dR : 0 ≤ M 173 p ∧ 0 ≤ M 174 p ∧ M 173 p + M 174 p ≤ M 158 36) (xc : ∀ k : Nat, (k : Int) < M 158 36 → nmI m (m 65 k) = M 175 k) : DO m cd M (cpC m cd 0 (i + 1)) (cq M 0 (i + 1)) i := by
  have ec : cq M 0 (i + 1) = (p : Int) := by rw [cq_cur]; exact sg_cur S hp i f1 f2
  have ecp : cpC m cd 0 (i + 1) = PAc m cd (p : Int) := sg_cpC S hp hO i f1 f2
  obtain ⟨c1, c2, c3, c4, c5⟩ := C p hp
  rw [ecp, ec, c1]
  have op3 := sg_op S hp f1 f2
  have o2 := hO i f2
  refine ⟨o2.1, o2.2, fun z => ?_, by rw [Int.toNat_natCast], fun w => ?_, fun w => ?_, fun w => ?_, fun w => ?_, fun w => ?_, fun w => ?_⟩
  · have z2 := hg z
    rw [y3]
    unfold tgM at z2 ⊢
    by_cases c : M 179 i < 0
    · rw [if_pos c] at z2
      exact absurd z2 (by decide)
    · rw [if_neg c]
  · have z := h67 w
    unfold LNc
    rw [if_neg (by rw [x5]; omega)]
    exact xv _ (by omega)
  · have z := h17 w
    obtain ⟨-, -, -, d4, d5⟩ := C (M 178 i).toNat (by omega)
    rw [show (((M 178 i).toNat : Nat) : Int) = M 178 i by omega] at d4
    rw [d4, d5]
  · rcases op3 with ⟨a, b, c⟩ | ⟨a, b, c⟩ | ⟨c, a, b⟩
    · omega
    · omega
    · rw [b (Or.inr w), c2.1, Int.toNat_natCast]
  · have hx : M 178 i = (p : Int) := by
      rcases op3 with ⟨a, b, c⟩ | ⟨a, b, c⟩ | ⟨c, a, b⟩
      · exact b
      · exact b
      · exact b (by omega)
    rw [hx, Int.toNat_natCast]
  · have hx : M 178 i = (p : Int) := by
      rcases op3 with ⟨a, b, c⟩ | ⟨a, b, c⟩ | ⟨c, a, b⟩
      · exact b
      · exact b
      · omega
    rw [hx, c3.1, c2.1, Int.toNat_natCast]
    exact ⟨rfl, rfl⟩
  · have hx : M 178 i = (p : Int) := by
      rcases op3 with ⟨a, b, c⟩ | ⟨a, b, c⟩ | ⟨c, a, b⟩
      · exact b
      · exact b
      · omega
    unfold csC csM
    rw [hx, Int.toNat_natCast, show ((p : Int) + 1).toNat = p + 1 by omega, xr.1, xr.2]
    have e1 : (M 173 p + M 174 p - M 173 p).toNat = (M 174 p).toNat := by omega
    rw [e1]
    exact rc_eq xc _ _ dR.1 (by omega)
theorem vsm_b (hv : ∀ k : Nat, (k : Int) < nv → 1 ≤ M 168 k ∧ M 168 k ≤ 500) : ∀ k : Nat, (k : Int) ≤ nv → 0 ≤ vsm M k ∧ vsm M k ≤ 500 * (k : Int)
  | 0 => fun _ => ⟨Int.le_refl 0, Int.le_refl 0⟩
  | k + 1 => fun hk => by
    have a := vsm_b hv k (by omega)
    have b := hv k (by omega)
    show 0 ≤ vsm M k + M 168 k ∧ vsm M k + M 168 k ≤ 500 * ((k + 1 : Nat) : Int)
    omega
/-- operands of orders that name procs -/
theorem ty_x (T : TyP (M 177) (M 178) (tgM M) fe np n (M 170) (M 168) nv nc sz wt h) {i : Nat} (hi : i < n) : ∃ p, p < np ∧ (fe p ≤ i ∧ i < fe (p + 1)) ∧ fe (p + 1) ≤ n ∧ (M 177 i = 0 ∨ M 177 i = 26 → M 178 i = (p : Int)) ∧ (M 177 i = 17 → 0 ≤ M 178 i ∧ M 178 i < (np : Int)) ∧ (M 177 i = 6 ∨ M 177 i = 7 → 0 ≤ M 178 i ∧ M 178 i < nv) ∧ (0 < gNo (M 177 i) → 0 ≤ tgM M i) := by
  obtain ⟨S, hfe, hq⟩ := T
  obtain ⟨p, hp, f1, f2⟩ := sg_find S np (Nat.le_refl _) i (by omega)
  obtain ⟨ml, mx, ⟨q1, q2, q3, q4⟩, -⟩ := hq p hp
  have fm := sg_mo S (p := p + 1) np (by omega) (Nat.le_refl _)
  refine ⟨p, hp, ⟨f1, f2⟩, by omega, ?_⟩
  rcases sg_op S hp f1 f2 with ⟨a, b, c⟩ | ⟨a, b, c⟩ | ⟨c, a, b⟩
  · exact ⟨fun _ => b, by omega, by omega, fun z => by have := gNo_R z; omega⟩
  · exact ⟨fun _ => b, by omega, by omega, fun z => by have := gNo_R z; omega⟩
  · obtain ⟨u, u2, u3, u4, u5⟩ := q4 i c.1 c.2
    refine ⟨by omega, u.2.2.2.2.2.2.2.1, u.2.2.2.2.2.1, fun z => ?_⟩
    rcases gNo_R z with w | w
    · have := (u4 w).1
      omega
    · have := (u5 w).1
      omega
theorem CLM_mk (T : TyP (M 177) (M 178) (tgM M) fe np n (M 170) (M 168) nv nc sz wt h) (D : MD M np n nv) (hnc : nc ≤ 30) (hsz : ∀ p, p < np → sz p = M 170 p + 2 + M 171 p) (hwt : ∀ p, p < np → wt p = w32 (2 + M 171 p + M 183 p + 3)) (X : CDt m cd M fe np n nv mn sz wt) : CLM m cd M n mn (M 182 mn.toNat) := by
  have hLM := LM_mk (e0 := M 182 mn.toNat) T D hnc hsz hwt
  have hO := hLM.1
  obtain ⟨d41, d25, d21, dnp, dn, dnv, d168, d179, dR, d36, d175, d83, d84⟩ := D
  obtain ⟨hc, ⟨x1, x0⟩, xo, ⟨x5, x7, x14, x4, x8⟩, xv, xp, xPA, xr, xc, xn, xf, xm, xmn⟩ := X
  have C := CPr_mk T dnp.2 hsz hwt xp
  have hv := vsm_b d168
  have S := T.1
  have hmn : ((mn.toNat : Nat) : Int) = mn := by omega
  have Cm := C mn.toNat (by omega)
  rw [hmn] at Cm
  have eEN := Cm.2.2.2.1
  have e182 := Cm.2.2.2.2
  have hn1 : 0 < n := hLM.2.2.1.1
  have xv' : ∀ v : Nat, (v : Int) < m 57 5 → (0 ≤ m 62 v ∧ m 62 v ≤ 1000000) ∧ (0 ≤ m 63 v ∧ m 63 v ≤ 500) := fun v hvv => by
    rw [x5] at hvv
    obtain ⟨a1, a2⟩ := xv v hvv
    have b := hv v (by omega)
    have c := d168 v hvv
    rw [a1, a2]
    exact ⟨⟨b.1, by omega⟩, by omega, by omega⟩
  have xF : ∀ p, 0 ≤ p ∧ p < m 57 7 → (-1000000 ≤ FRc m cd p ∧ FRc m cd p ≤ 1000000) ∧ (-1000000 ≤ WAc m cd p ∧ WAc m cd p ≤ 1000000) := fun p hp => by
    rw [x7] at hp
    obtain ⟨-, c2, c3, -⟩ := C p.toNat (by omega)
    rw [show ((p.toNat : Nat) : Int) = p by omega] at c2 c3
    exact ⟨⟨by omega, by omega⟩, by omega, by omega⟩
  have hcd3 : m cd 0 ≤ 3000 := by rw [x0]; omega
  have h8 := hv nv.toNat (by omega)
  have hLK : ∀ w3 s, w3 = 0 ∨ w3 = 1 → 0 ≤ s → s ≤ 1000000 → LK (uv cd w3 s m) cd n := fun w3 s hw hs0 hs1 => by
    refine ⟨hc, by rw [uv_c hc (by decide)]; exact x0, by omega, fun i hi => ?_, by rw [uv_o hc (by decide) (by omega)]; omega, fun f => ?_, by rw [uv_o hc (by decide) (by omega), x7]; omega, fun Q i5 p6 hQ hi5 hp6 => CL_LX hc x1 hcd3 (by omega) xv' xPA xF hw ⟨hs0, hs1⟩ hQ hi5 hp6⟩
    · obtain ⟨y1, y2, y3⟩ := xo i hi
      rw [uv_o hc (by omega) (by omega), uv_o hc (by omega) (by omega), y1, y2]
      obtain ⟨p, hp, -, -, t1, t2, -⟩ := ty_x T hi
      refine CL_CO hc (hO i hi) (fun w => ?_) (fun w => ?_) (fun w => ?_)
      · have z := t2 w
        have c4 := (C (M 178 i).toNat (by omega)).2.2.2.1
        rw [show (((M 178 i).toNat : Nat) : Int) = M 178 i by omega] at c4
        rw [c4]
        exact Int.natCast_nonneg _
      · have hx := t1 (Or.inr w)
        obtain ⟨r1, r2⟩ := xr p hp
        obtain ⟨r3, r4, r5⟩ := dR p hp
        rw [hx, Int.toNat_natCast, show ((p : Int) + 1).toNat = p + 1 by omega, r1, r2, x7, x14]
        exact ⟨⟨by omega, by omega⟩, r3.1, r3.2, by omega, by omega, by omega⟩
      · rw [t1 (Or.inl w), x7]
        exact ⟨by omega, by omega⟩
    · have e1 : nmI (uv cd w3 s m) f = nmI m f := by
        unfold nmI
        rw [uv_o hc (by decide) (by omega), uv_o hc (by decide) (by omega)]
      rw [e1]
      exact xn f
  have hDO : ∀ i, i < n → DO m cd M (cpC m cd 0 (i + 1)) (cq M 0 (i + 1)) i := fun i hi => by
    obtain ⟨p, hp, ⟨f1, f2⟩, f3, -, t2, t3, t4⟩ := ty_x T hi
    obtain ⟨r3, r4, r5⟩ := dR p hp
    exact CL_DO S hp f1 f2 (fun j hj => by have z := xo j (by omega); exact ⟨z.1, z.2.1⟩) (xo i hi).2.2 t4 t3 t2 x5 (fun k hk => (xv k hk).1) C (xr p hp) ⟨r3.1, r4, r3.2⟩ xc
  refine ⟨⟨hLK, x1, xPA, x4.1, x4.2, xf, fun Q i5 p6 w3 s => by rw [CL_mn hc xf]; exact xm, ⟨by rw [x8]; exact h8.1, by rw [x8]; omega⟩, by rw [eEN]; exact Int.natCast_nonneg _⟩, hLM, ?_, hDO, by rw [eEN, e182]⟩
  have z := (xo 0 hn1).1
  have w := (S.2 0 (by omega)).2.1.1
  rw [S.1] at w
  rw [z, w]
end Cyl
