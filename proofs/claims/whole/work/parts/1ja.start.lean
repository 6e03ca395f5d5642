/-! THE START OF A RUN -/
section Sta
/-- memories that differ in the counts of clocks alone -/
def Eqc (m n : Mem) : Prop := ∀ a k, ¬ (a = 78 ∧ (k = 12 ∨ k = 13)) → m a k = n a k
theorem Eqc_put {m n : Mem} {a k : Nat} {v v2 : Int} (h : Eqc m n) (hv : v = v2) : Eqc (put m a k v) (put n a k v2) := fun b j hb => by
  rw [put_ss, put_ss, hv]
  by_cases c : b = a
  · rw [if_pos c, if_pos c]
    by_cases c2 : j = k
    · rw [if_pos c2, if_pos c2]
    · rw [if_neg c2, if_neg c2]
      exact h b j hb
  · rw [if_neg c, if_neg c]
    exact h b j hb
theorem Eqc_nx {m n : Mem} (h : Eqc m n) : Eqc (nx m) (nx n) := by
  unfold nx
  exact Eqc_put (Eqc_put h (h 78 2 (by decide))) rfl
theorem Eqc_act {m n : Mem} (h : Eqc m n) : Eqc (act m) (act n) := by
  have h2 := h 78 2 (by decide)
  have h3 := h 78 3 (by decide)
  have h80 : ∀ k, m 80 k = n 80 k := fun k => h 80 k (by omega)
  unfold act
  rw [h3, h2, h80, h80, h80]
  by_cases c8 : n 78 3 / 4096 = 8
  · rw [if_pos c8, if_pos c8]
    exact Eqc_put (Eqc_put h rfl) rfl
  · rw [if_neg c8, if_neg c8]
    by_cases c9 : n 78 3 / 4096 = 9
    · rw [if_pos c9, if_pos c9]
      exact Eqc_put (Eqc_put (Eqc_put h rfl) rfl) rfl
    · rw [if_neg c9, if_neg c9]
      by_cases c10 : n 78 3 / 4096 < 8 ∨ n 78 3 / 4096 = 10
      · rw [if_pos c10, if_pos c10]
        exact Eqc_nx (Eqc_put h rfl)
      · rw [if_neg c10, if_neg c10]
        by_cases c11 : n 78 3 / 4096 = 11
        · rw [if_pos c11, if_pos c11]
          split
          · exact Eqc_nx (Eqc_put h rfl)
          · exact Eqc_nx h
        · rw [if_neg c11, if_neg c11]
          by_cases c12 : n 78 3 / 4096 = 12
          · rw [if_pos c12, if_pos c12]
            split
            · exact Eqc_nx (Eqc_put h rfl)
            · exact Eqc_nx h
          · rw [if_neg c12, if_neg c12]
            by_cases c13 : n 78 3 / 4096 = 13
            · rw [if_pos c13, if_pos c13]
              exact Eqc_nx (Eqc_put (Eqc_put h rfl) rfl)
            · rw [if_neg c13, if_neg c13]
              by_cases c14 : n 78 3 / 4096 = 14
              · rw [if_pos c14, if_pos c14]
                exact Eqc_nx (Eqc_put h rfl)
              · rw [if_neg c14, if_neg c14]
                exact Eqc_put (Eqc_put h rfl) rfl
theorem Eqc_dat {m n : Mem} (h : Eqc m n) : dat m = dat n := by
  unfold dat
  rw [h 78 4 (by decide), h 78 9 (by decide), h 78 8 (by decide), h 79 _ (by omega), h 81 _ (by omega)]
theorem Eqc_tik {m n : Mem} (h : Eqc m n) : Eqc (tik id m) (tik id n) := by
  have h6 := h 78 6 (by decide)
  unfold tik
  rw [h6]
  by_cases c0 : n 78 6 = 0
  · rw [if_pos c0, if_pos c0]
    exact Eqc_put (Eqc_put (Eqc_put h (Eqc_dat h)) (by rw [h 78 2 (by decide)])) rfl
  · rw [if_neg c0, if_neg c0]
    by_cases c1 : n 78 6 = 1
    · rw [if_pos c1, if_pos c1]
      exact Eqc_act h
    · rw [if_neg c1, if_neg c1]
      by_cases c2 : n 78 6 = 2
      · rw [if_pos c2, if_pos c2]
        refine Eqc_nx ?_
        have hp : Eqc (put m 80 (m 78 3 / 512 % 8).toNat (dat m)) (put n 80 (n 78 3 / 512 % 8).toNat (dat n)) := by
          rw [h 78 3 (by decide)]
          exact Eqc_put h (Eqc_dat h)
        unfold tkn
        rw [hp 78 4 (by decide), hp 78 9 (by decide), hp 78 8 (by decide)]
        split
        · exact Eqc_put hp rfl
        · exact hp
      · rw [if_neg c2, if_neg c2]
        refine Eqc_nx ?_
        unfold giv
        rw [h 78 4 (by decide), h 78 5 (by decide), h 78 11 (by decide)]
        split
        · exact Eqc_put h rfl
        · split
          · refine Eqc_put ?_ rfl
            split
            · exact Eqc_put h rfl
            · exact h
          · exact h
theorem Eqc_n : ∀ (k : Nat) {m n : Mem}, Eqc m n → Eqc (tikn k m) (tikn k n)
  | 0, m, n, h => h
  | k + 1, m, n, h => Eqc_n k (Eqc_tik h)
theorem adv_tik : ∀ (j : Nat) (m : Mem), ∃ n, n ≤ j ∧ Eqc (adv j m).2 (tikn n m)
  | 0, m => ⟨0, Nat.le_refl _, fun _ _ _ => rfl⟩
  | j + 1, m => by
    unfold adv
    by_cases c : stopd m
    · rw [if_pos c]
      exact ⟨0, Nat.zero_le _, fun _ _ _ => rfl⟩
    · rw [if_neg c]
      obtain ⟨n, h1, h2⟩ := adv_tik j (stp m)
      have e : Eqc (stp m) (tik id m) := fun a k hk => by
        unfold stp cnt
        rw [put_ss, put_ss]
        by_cases q : a = 78
        · rw [if_pos q, if_neg (fun w => hk ⟨q, Or.inl w⟩), if_pos q, if_neg (fun w => hk ⟨q, Or.inr w⟩)]
        · rw [if_neg q, if_neg q]
      refine ⟨n + 1, by omega, fun a k hk => ?_⟩
      rw [h2 a k hk]
      exact Eqc_n n e a k hk
end Sta
section Stb
variable {M : Mem} {np n : Nat} {fe : Nat → Nat} {h u : Nat → Int} {nc : Int} {cs : Nat → List Int}
/-- the first words -/
theorem HEAD {ni tk ou : Int} {ip Y sn : Nat → Int} (Q : PRQ M np n fe h u nc cs) : RnC 10 (M 158 68).toNat (M 193) ni ip (0, R8 0 0 0 0 0 0 0 0, Y, tk, ou, sn) (M 187 (fe (M 158 67).toNat), R8 0 0 0 0 0 7 (Bq M) (Bq M), Y, tk, ou, sn) := by
  obtain ⟨B1, B2, B3, B4, B5, B6, B7⟩ := PR_B Q
  have hm := Q.2.2.2.2.2.2.2.2.2.2.1.1
  have hE := (Q.2.2.2.2.2.2.2.2.1 (M 158 67).toNat (by omega)).1
  obtain ⟨-, -, n3, n4, -⟩ := ENk Q (q := (M 158 67).toNat) (by omega)
  have z := Q.2.2.2.1
  unfold hdI at z
  simp only [WdOk_app, l_iL, l_nt] at z
  obtain ⟨w0, w1, w2, w3, w4, -⟩ := z
  have eN : Nq M (-1) = Bq M := by
    unfold Nq
    rw [if_neg (by decide), if_pos rfl]
  have eE : Nq M (M 191 (M 158 67).toNat) = M 187 (fe (M 158 67).toNat) := by rw [hE]; exact n4
  refine RnC_tr (a := 2) (b := 8) (T := (0 + 1, R8 0 0 0 0 0 0 0 0, Y, tk, ou, sn)) (J_li (d := 4) (x := 0) B3 ⟨by omega, by omega, by omega⟩ (by decide) (by omega) (wl w0) (by omega) v8_4) ?_
  refine RnC_tr (a := 2) (b := 6) (T := (0 + 1 + 2, R8 0 0 0 0 0 0 0 (Bq M), Y, tk, ou, sn)) (X_nt (d := 7) (v := Bq M) B3 ⟨by omega, by omega, by omega⟩ (by decide) w1 eN (by omega) v8_7) ?_
  refine RnC_tr (a := 2) (b := 4) (T := (0 + 1 + 2 + 1, R8 0 0 0 0 0 0 (Bq M) (Bq M), Y, tk, ou, sn)) (J_addi (d := 6) (a := 7) (x := 0) (v := Bq M) B3 ⟨by omega, by omega, by omega⟩ (by decide) (by omega) (wl w2) (by show (Bq M + 0) % 65536 = _; omega) v8_6) ?_
  refine RnC_tr (a := 2) (b := 2) (T := (0 + 1 + 2 + 1 + 2, R8 0 0 0 0 0 (M 187 (fe (M 158 67).toNat)) (Bq M) (Bq M), Y, tk, ou, sn)) (X_nt (d := 5) (v := M 187 (fe (M 158 67).toNat)) B3 ⟨by omega, by omega, by omega⟩ (by decide) w3 eE (by omega) v8_5) ?_
  exact J_call (d := 5) (a := 5) B3 ⟨by omega, by omega⟩ (by decide) (wl w4) rfl v8_5
/-- main is entered: the relation holds -/
theorem ENT {mS : Mem} {Y sn : Nat → Int} (Q : PRQ M np n fe h u nc cs) (hni : 0 ≤ M 158 103) (K : KMq M mS) (e111 : mS 158 111 = 1) (e211 : mS 211 0 = 0) (e108 : mS 158 108 = M 189 (M 158 67).toNat - 2) (e114 : mS 158 114 = 0) (e115 : mS 158 115 = 0) (e213 : ∀ q : Nat, (q : Int) < M 158 70 → mS 213 q = 0) (hY : ∀ q : Nat, M 158 68 ≤ (q : Int) → q < 8192 → Y q = 0) : (∃ S, Rn (M 158 68).toNat (M 193) (M 158 103) (M 208) (M 187 (fe (M 158 67).toNat), R8 0 0 0 0 0 7 (Bq M) (Bq M), Y, 0, 0, sn) S ∧ RELx M np fe h u ((fe (M 158 67).toNat : Int) + 1) 0 mS S) ∨ ∃ r ou sn2, Re (M 158 68).toNat (M 193) (M 158 103) (M 208) (M 187 (fe (M 158 67).toNat), R8 0 0 0 0 0 7 (Bq M) (Bq M), Y, 0, 0, sn) r ou sn2 ∧ r 4 = 65535 := by
  obtain ⟨B1, B2, B3, B4, B5, B6, B7⟩ := PR_B Q
  have hm := Q.2.2.2.2.2.2.2.2.2.2.1
  obtain ⟨q, eq⟩ : ∃ q : Nat, M 158 67 = (q : Int) := ⟨(M 158 67).toNat, by omega⟩
  rw [eq, Int.toNat_natCast] at hm e108 ⊢
  have hq : q < np := by omega
  obtain ⟨n1, n2, n3, n4, g0, g1, x1, x2, x3, x4⟩ := ENk Q hq
  obtain ⟨mlq, mxq, y1, y2, y3, y4, ⟨-, yh, -, -⟩, ⟨y5, y6⟩, -⟩ := PR_s Q hq
  have hu := (Q.2.2.2.2.2.2.2.2.2.2.2 q hq).1
  have hBq : Bq M = M 158 68 + M 158 70 := rfl
  by_cases hfull : Bq M + M 190 q ≤ 8192
  · left
    obtain ⟨s0, s1, s2, s3, s5, q2⟩ := Q_0 (ni := M 158 103) (ip := M 208) (tk := 0) (ou := 0) (Y := Y) (sn := sn) (r0 := 0) (r1 := 0) (r2 := 0) (r3 := 0) (r4 := 0) (r5 := 7) (r6 := Bq M) (r7 := Bq M) B3 (by omega) x1 x2 x3 x4 (by omega) (by omega) (by omega) (by omega) (by omega) hfull
    refine ⟨_, q2, ?_⟩
    obtain ⟨hq1, hq2⟩ := hq_n Q hq (i := fe q + 1) (by omega) n2
    have el : limq M h (mS 211) 1 q (fe q + 1) = M 189 q - 2 := by
      unfold limq
      rw [hq1, yh.1, show (1 : Nat) - 1 = 0 from rfl, e211]
      omega
    have ePB : PBq M (mS 211) 0 = Bq M := by
      unfold PBq
      rw [e211]
      omega
    refine ⟨fun _ => q, 1, q, fe q + 1, s0, s1, s2, s3, s5, Bq M + (M 189 q - M 188 q), vput (vput Y (Bq M).toNat 7) (Bq M + 1).toNat (Bq M), 0, 0, sn, by omega, ?_, K, ⟨e111, by omega, rfl, hq⟩, ⟨by omega, n2⟩, ⟨by omega, Or.inl rfl⟩, fun _ => ?_, ?_, ?_, ?_⟩
    · rw [show (1 : Nat) - 1 = 0 from rfl, ePB, hm.2, Int.sub_zero]
    · rw [el, e108]
      exact ⟨rfl, by omega⟩
    · rw [el]
      refine ⟨fun j hj => ?_, fun j hj => by omega, fun j hj k k0 k1 kv => ?_⟩
      · have e0 : j = 0 := by omega
        subst e0
        unfold FJq
        rw [ePB, hm.2, if_pos rfl, if_pos rfl, e211]
        refine ⟨hq, Int.le_refl 0, by show Bq M + 0 + M 190 q ≤ 8192; omega, ?_, ?_⟩
        · rw [Int.add_zero]
          show (if (Bq M).toNat = (Bq M + 1).toNat then _ else if (Bq M).toNat = (Bq M).toNat then _ else _) = _
          rw [if_neg (by omega), if_pos rfl]
        · rw [Int.add_zero]
          exact vp_e
      · have e0 : j = 0 := by omega
        subst e0
        unfold upq at k1
        unfold vdq at kv
        rw [if_neg (by omega)] at k1 kv
        rw [e211] at k0 kv
        have kv2 : (k : Int) - 0 < u (fe q + 1) ∨ 0 + M 189 q - 2 ≤ (k : Int) := kv
        exfalso
        omega
    · intro g hg
      rw [e213 g hg]
      refine ⟨?_, by decide, by decide⟩
      show (if _ = (Bq M + 1).toNat then _ else if _ = (Bq M).toNat then _ else Y _) = 0
      rw [if_neg (by omega), if_neg (by omega)]
      exact hY _ (by omega) (by omega)
    · exact ⟨⟨e114, Int.le_refl 0, hni⟩, ⟨e115, Int.le_refl 0⟩, fun k hk _ => by omega⟩
  · right
    obtain ⟨r, q2, q3⟩ := Q_0f (ni := M 158 103) (ip := M 208) (tk := 0) (ou := 0) (Y := Y) (sn := sn) (r0 := 0) (r1 := 0) (r2 := 0) (r3 := 0) (r4 := 0) (r5 := 7) (r6 := Bq M) (r7 := Bq M) B3 (by omega) x1 x2 x3 x4 (by omega) (by omega) (by omega) (by omega) hfull
    exact ⟨r, 0, sn, q2, q3⟩
/-- from rest at the first word to the end: full, or the meaning ends alike -/
theorem BEG {F d L : Nat} {xs : Nat → Int32} {mS pm : Mem} {Y sn : Nat → Int} {N : Nat} (hF : 100000 ≤ F) (Q : PRQ M np n fe h u nc cs) (X : EXQ M) (K : KMq M mS) (e111 : mS 158 111 = 1) (e211 : mS 211 0 = 0) (e108 : mS 158 108 = M 189 (M 158 67).toNat - 2) (e114 : mS 158 114 = 0) (e115 : mS 158 115 = 0) (e213 : ∀ q : Nat, (q : Int) < M 158 70 → mS 213 q = 0) (hY : ∀ q : Nat, M 158 68 ≤ (q : Int) → q < 8192 → Y q = 0) (hr : Rst (M 158 68).toNat (M 193) (M 158 103) (M 208) (0, R8 0 0 0 0 0 0 0 0, Y, 0, 0, sn) pm) (hh : hlt (tikn N pm)) (hN : N ≤ 20000) : tikn N pm 80 4 = 65535 ∨ ∃ c' m', (∀ (w : Int) (q4 q5 q6 q7 q8 q9 q10 : Nat × Int), ∃ s, LW F (d + 4) lb_317_2 F (lox w 0 ((fe (M 158 67).toNat : Int) + 1) q4 q5 q6 q7 q8 q9 q10, Hp L xs mS) = some (3, [c'], (s, Hp L xs m'))) ∧ tikn N pm 80 4 = c' ∧ (0 ≤ c' ∧ c' ≤ 30) ∧ KMq M m' ∧ (m' 158 115 = tikn N pm 78 11 ∧ 0 ≤ m' 158 115 ∧ m' 158 115 ≤ 20000) ∧ ∀ k : Nat, (k : Int) < m' 158 115 → k < 500 → m' 215 k = sg (tikn N pm 82 k) := by
  obtain ⟨k1, j1, j2⟩ := HEAD (ni := M 158 103) (ip := M 208) (tk := 0) (ou := 0) (Y := Y) (sn := sn) Q pm hr
  rcases ENT (Y := Y) (sn := sn) Q X.1.1 K e111 e211 e108 e114 e115 e213 hY with ⟨S, s1, s2⟩ | ⟨r, ou, sn2, s1, s2⟩
  · obtain ⟨k2, j3, j4⟩ := s1 _ j2
    rw [← tikn_add] at j4
    have hk : k1 + k2 ≤ N := by
      by_cases e : k1 + k2 ≤ N
      · exact e
      · have z := (hlt_n (k1 + k2 - N) hh).1
        rw [← tikn_add, show N + (k1 + k2 - N) = k1 + k2 from by omega] at z
        have z6 := j4.1.2.2
        have w : tikn (k1 + k2) pm 78 6 = 1 := z.1
        omega
    have eN : tikn N pm = tikn (N - (k1 + k2)) (tikn (k1 + k2) pm) := by
      rw [← tikn_add, show k1 + k2 + (N - (k1 + k2)) = N from by omega]
    rw [eN] at hh ⊢
    rcases SIM (F := F) (d := d) (L := L) (xs := xs) hF Q X (N - (k1 + k2)) _ 0 mS S (tikn (k1 + k2) pm) s2 j4 hh (by rw [e111]; omega) (by rw [e115]; omega) with z | ⟨c', m', z1, z2⟩
    · exact Or.inl z
    · exact Or.inr ⟨c', m', fun w q4 q5 q6 q7 q8 q9 q10 => z1 F w q4 q5 q6 q7 q8 q9 q10 (by omega), z2⟩
  · left
    obtain ⟨k2, j3, j4, -⟩ := s1 _ j2
    rw [← tikn_add] at j3 j4
    rw [(hlt_u hh j3).1 4, j4 4 (by decide)]
    exact s2
end Stb
