/-! THE TOP, first walk: what lists of names leave; blocks there -/
section Folds
variable {v : Int → Int}
theorem npm_f : ∀ (t : xT) (j : Mem), npm v t j 158 30 = j 158 30 + nN t ∧ (∀ k, k ≠ 30 → k ≠ 31 → npm v t j 158 k = j 158 k) ∧ (∀ a k, a ≠ 158 → a ≠ 172 → npm v t j a k = j a k)
  | .tag k (.nest i (.append a b)), j => by
    have f1 : jadx j (v i) 158 30 = j 158 30 + 1 := rfl
    have f2 : ∀ k, k ≠ 30 → k ≠ 31 → jadx j (v i) 158 k = j 158 k := fun k h1 h2 => by
      unfold jadx
      simp only [put_ss, Nat.reduceEqDiff, if_true, if_false, h1, h2]
    have f3 : ∀ a k, a ≠ 158 → a ≠ 172 → jadx j (v i) a k = j a k := fun a k h1 h2 => by
      unfold jadx
      simp only [put_ss, if_false, h1, h2]
    by_cases hk : k = 45
    · subst hk
      exact ⟨f1, f2, f3⟩
    · have e1 : npm v (.tag k (.nest i (.append a b))) j = npm v b (jadx j (v i)) := by
        rw [npm]
        split
        · exact absurd rfl hk
        · rfl
      have e2 : nN (.tag k (.nest i (.append a b))) = nN b + 1 := by
        rw [nN]
        exact hk
      obtain ⟨g1, g2, g3⟩ := npm_f b (jadx j (v i))
      rw [e1, e2]
      exact ⟨by rw [g1, f1]; omega, fun k h1 h2 => (g2 k h1 h2).trans (f2 k h1 h2), fun a k h1 h2 => (g3 a k h1 h2).trans (f3 a k h1 h2)⟩
  | .nil, j => ⟨(Int.add_zero _).symm, fun _ _ _ => rfl, fun _ _ _ _ => rfl⟩
  | .line, j => ⟨(Int.add_zero _).symm, fun _ _ _ => rfl, fun _ _ _ _ => rfl⟩
  | .align _, j => ⟨(Int.add_zero _).symm, fun _ _ _ => rfl, fun _ _ _ _ => rfl⟩
  | .text _, j => ⟨(Int.add_zero _).symm, fun _ _ _ => rfl, fun _ _ _ _ => rfl⟩
  | .append _ _, j => ⟨(Int.add_zero _).symm, fun _ _ _ => rfl, fun _ _ _ _ => rfl⟩
  | .group _ _, j => ⟨(Int.add_zero _).symm, fun _ _ _ => rfl, fun _ _ _ _ => rfl⟩
  | .nest _ _, j => ⟨(Int.add_zero _).symm, fun _ _ _ => rfl, fun _ _ _ _ => rfl⟩
  | .tag _ .nil, j => ⟨(Int.add_zero _).symm, fun _ _ _ => rfl, fun _ _ _ _ => rfl⟩
  | .tag _ .line, j => ⟨(Int.add_zero _).symm, fun _ _ _ => rfl, fun _ _ _ _ => rfl⟩
  | .tag _ (.align _), j => ⟨(Int.add_zero _).symm, fun _ _ _ => rfl, fun _ _ _ _ => rfl⟩
  | .tag _ (.text _), j => ⟨(Int.add_zero _).symm, fun _ _ _ => rfl, fun _ _ _ _ => rfl⟩
  | .tag _ (.append _ _), j => ⟨(Int.add_zero _).symm, fun _ _ _ => rfl, fun _ _ _ _ => rfl⟩
  | .tag _ (.group _ _), j => ⟨(Int.add_zero _).symm, fun _ _ _ => rfl, fun _ _ _ _ => rfl⟩
  | .tag _ (.tag _ _), j => ⟨(Int.add_zero _).symm, fun _ _ _ => rfl, fun _ _ _ _ => rfl⟩
  | .tag _ (.nest _ .nil), j => ⟨(Int.add_zero _).symm, fun _ _ _ => rfl, fun _ _ _ _ => rfl⟩
  | .tag _ (.nest _ .line), j => ⟨(Int.add_zero _).symm, fun _ _ _ => rfl, fun _ _ _ _ => rfl⟩
  | .tag _ (.nest _ (.align _)), j => ⟨(Int.add_zero _).symm, fun _ _ _ => rfl, fun _ _ _ _ => rfl⟩
  | .tag _ (.nest _ (.text _)), j => ⟨(Int.add_zero _).symm, fun _ _ _ => rfl, fun _ _ _ _ => rfl⟩
  | .tag _ (.nest _ (.nest _ _)), j => ⟨(Int.add_zero _).symm, fun _ _ _ => rfl, fun _ _ _ _ => rfl⟩
  | .tag _ (.nest _ (.group _ _)), j => ⟨(Int.add_zero _).symm, fun _ _ _ => rfl, fun _ _ _ _ => rfl⟩
  | .tag _ (.nest _ (.tag _ _)), j => ⟨(Int.add_zero _).symm, fun _ _ _ => rfl, fun _ _ _ _ => rfl⟩
theorem jtl_TS {j : Mem} {s : tS6} {x k i : Int} (h : TS j s) : jtl j x k i 158 17 = ((s.1 ++ [(x, k, i)]).length : Int) ∧ (∀ n : Nat, n < (s.1 ++ [(x, k, i)]).length → jtl j x k i 165 n = ((s.1 ++ [(x, k, i)]).getD n (0, 0, 0)).1 ∧ jtl j x k i 166 n = ((s.1 ++ [(x, k, i)]).getD n (0, 0, 0)).2.1 ∧ jtl j x k i 167 n = ((s.1 ++ [(x, k, i)]).getD n (0, 0, 0)).2.2) := by
  obtain ⟨h1, h2, -⟩ := h
  have hn : (j 158 17).toNat = s.1.length := by omega
  refine ⟨by show j 158 17 + 1 = _; rw [h1]; simp, fun n hlt => ?_⟩
  have hlt' : n < s.1.length + 1 := by simpa using hlt
  unfold jtl
  simp only [put_ss, Nat.reduceEqDiff, if_true, if_false, hn]
  by_cases he : n = s.1.length
  · subst he
    simp [List.getD_eq_getElem?_getD]
  · have hlt2 : n < s.1.length := by omega
    obtain ⟨g1, g2, g3⟩ := h2 n hlt2
    simp only [he, if_false]
    rw [g1, g2, g3]
    simp [List.getD_eq_getElem?_getD, List.getElem?_append_left hlt2]
theorem jcd_TS {j : Mem} {s : tS6} {p : Int} (h : TS j s) : TS (jcd j (v p)) (sC v p s) := by
  have h' := h
  obtain ⟨h1, h2, h3, h4, h5, h6, h7, h8⟩ := h'
  obtain ⟨g1, g2⟩ := jtl_TS (x := v p) (k := 3) (i := j 158 24) h
  rw [h4] at g1 g2
  unfold TS sC
  refine ⟨?_, ?_, h3, ?_, h5, h6, h7, h8⟩
  · show jtl j (v p) 3 (j 158 24) 158 17 = _
    rw [h4]; exact g1
  · intro i hi
    have := g2 i hi
    show jtl j (v p) 3 (j 158 24) 165 i = _ ∧ jtl j (v p) 3 (j 158 24) 166 i = _ ∧ jtl j (v p) 3 (j 158 24) 167 i = _
    rw [h4]; exact this
  · show j 158 24 + 1 = s.2.2.1 + 1
    rw [h4]
theorem ncd_f : ∀ (t : xT) (j : Mem), (∀ s, TS j s → TS (ncd v t j) (sN v t s)) ∧ ncd v t j 158 17 = j 158 17 + nN t ∧ ncd v t j 158 24 = j 158 24 + nN t ∧ (∀ k, k ≠ 17 → k ≠ 24 → ncd v t j 158 k = j 158 k)
  | .tag k (.nest i (.append a b)), j => by
    have f1 : jcd j (v i) 158 17 = j 158 17 + 1 := rfl
    have f2 : jcd j (v i) 158 24 = j 158 24 + 1 := rfl
    have f3 : ∀ k, k ≠ 17 → k ≠ 24 → jcd j (v i) 158 k = j 158 k := fun k h1 h2 => by
      unfold jcd jtl
      simp only [put_ss, Nat.reduceEqDiff, if_true, if_false, h1, h2]
    by_cases hk : k = 45
    · subst hk
      exact ⟨fun s h => jcd_TS h, f1, f2, f3⟩
    · have e1 : ncd v (.tag k (.nest i (.append a b))) j = ncd v b (jcd j (v i)) := by
        rw [ncd]
        split
        · exact absurd rfl hk
        · rfl
      have e2 : nN (.tag k (.nest i (.append a b))) = nN b + 1 := by
        rw [nN]
        exact hk
      have e3 : ∀ s, sN v (.tag k (.nest i (.append a b))) s = sN v b (sC v i s) := fun s => by
        rw [sN]
        split
        · exact absurd rfl hk
        · rfl
      obtain ⟨g1, g2, g3, g4⟩ := ncd_f b (jcd j (v i))
      rw [e1, e2]
      exact ⟨fun s h => by rw [e3]; exact g1 _ (jcd_TS h), by rw [g2, f1]; omega, by rw [g3, f2]; omega, fun k h1 h2 => (g4 k h1 h2).trans (f3 k h1 h2)⟩
  | .nil, j => ⟨fun _ h => h, (Int.add_zero _).symm, (Int.add_zero _).symm, fun _ _ _ => rfl⟩
  | .line, j => ⟨fun _ h => h, (Int.add_zero _).symm, (Int.add_zero _).symm, fun _ _ _ => rfl⟩
  | .align _, j => ⟨fun _ h => h, (Int.add_zero _).symm, (Int.add_zero _).symm, fun _ _ _ => rfl⟩
  | .text _, j => ⟨fun _ h => h, (Int.add_zero _).symm, (Int.add_zero _).symm, fun _ _ _ => rfl⟩
  | .append _ _, j => ⟨fun _ h => h, (Int.add_zero _).symm, (Int.add_zero _).symm, fun _ _ _ => rfl⟩
  | .group _ _, j => ⟨fun _ h => h, (Int.add_zero _).symm, (Int.add_zero _).symm, fun _ _ _ => rfl⟩
  | .nest _ _, j => ⟨fun _ h => h, (Int.add_zero _).symm, (Int.add_zero _).symm, fun _ _ _ => rfl⟩
  | .tag _ .nil, j => ⟨fun _ h => h, (Int.add_zero _).symm, (Int.add_zero _).symm, fun _ _ _ => rfl⟩
  | .tag _ .line, j => ⟨fun _ h => h, (Int.add_zero _).symm, (Int.add_zero _).symm, fun _ _ _ => rfl⟩
  | .tag _ (.align _), j => ⟨fun _ h => h, (Int.add_zero _).symm, (Int.add_zero _).symm, fun _ _ _ => rfl⟩
  | .tag _ (.text _), j => ⟨fun _ h => h, (Int.add_zero _).symm, (Int.add_zero _).symm, fun _ _ _ => rfl⟩
  | .tag _ (.append _ _), j => ⟨fun _ h => h, (Int.add_zero _).symm, (Int.add_zero _).symm, fun _ _ _ => rfl⟩
  | .tag _ (.group _ _), j => ⟨fun _ h => h, (Int.add_zero _).symm, (Int.add_zero _).symm, fun _ _ _ => rfl⟩
  | .tag _ (.tag _ _), j => ⟨fun _ h => h, (Int.add_zero _).symm, (Int.add_zero _).symm, fun _ _ _ => rfl⟩
  | .tag _ (.nest _ .nil), j => ⟨fun _ h => h, (Int.add_zero _).symm, (Int.add_zero _).symm, fun _ _ _ => rfl⟩
  | .tag _ (.nest _ .line), j => ⟨fun _ h => h, (Int.add_zero _).symm, (Int.add_zero _).symm, fun _ _ _ => rfl⟩
  | .tag _ (.nest _ (.align _)), j => ⟨fun _ h => h, (Int.add_zero _).symm, (Int.add_zero _).symm, fun _ _ _ => rfl⟩
  | .tag _ (.nest _ (.text _)), j => ⟨fun _ h => h, (Int.add_zero _).symm, (Int.add_zero _).symm, fun _ _ _ => rfl⟩
  | .tag _ (.nest _ (.nest _ _)), j => ⟨fun _ h => h, (Int.add_zero _).symm, (Int.add_zero _).symm, fun _ _ _ => rfl⟩
  | .tag _ (.nest _ (.group _ _)), j => ⟨fun _ h => h, (Int.add_zero _).symm, (Int.add_zero _).symm, fun _ _ _ => rfl⟩
  | .tag _ (.nest _ (.tag _ _)), j => ⟨fun _ h => h, (Int.add_zero _).symm, (Int.add_zero _).symm, fun _ _ _ => rfl⟩
theorem PN_n {K : Int → Int} : ∀ (t : xT) {p q : Int}, PN K t p q → p + nN t ≤ q ∧ 1 ≤ nN t ∧ K q ≠ 44
  | .tag k (.nest i (.append a b)), p, q, h => by
    unfold PN at h
    split at h
    · obtain ⟨h1, h2, h3, h4⟩ := h
      have e2 : nN (.tag 45 (.nest i (.append a b))) = 1 := rfl
      rw [e2]
      exact ⟨by omega, by omega, h4⟩
    · obtain ⟨h1, h2, h3, h4⟩ := h
      have e2 : nN (.tag 46 (.nest i (.append a b))) = nN b + 1 := rfl
      have g := PN_n b h4
      rw [e2]
      exact ⟨by omega, by omega, g.2.2⟩
    · exact h.elim
  | .nil, _, _, h => h.elim
  | .line, _, _, h => h.elim
  | .align _, _, _, h => h.elim
  | .text _, _, _, h => h.elim
  | .append _ _, _, _, h => h.elim
  | .group _ _, _, _, h => h.elim
  | .nest _ _, _, _, h => h.elim
  | .tag _ .nil, _, _, h => h.elim
  | .tag _ .line, _, _, h => h.elim
  | .tag _ (.align _), _, _, h => h.elim
  | .tag _ (.text _), _, _, h => h.elim
  | .tag _ (.append _ _), _, _, h => h.elim
  | .tag _ (.group _ _), _, _, h => h.elim
  | .tag _ (.tag _ _), _, _, h => h.elim
  | .tag _ (.nest _ .nil), _, _, h => h.elim
  | .tag _ (.nest _ .line), _, _, h => h.elim
  | .tag _ (.nest _ (.align _)), _, _, h => h.elim
  | .tag _ (.nest _ (.text _)), _, _, h => h.elim
  | .tag _ (.nest _ (.nest _ _)), _, _, h => h.elim
  | .tag _ (.nest _ (.group _ _)), _, _, h => h.elim
  | .tag _ (.nest _ (.tag _ _)), _, _, h => h.elim
end Folds
theorem nrs_id {v : Int → Int} : ∀ (t : xT) (j : Mem), nrs v t j = j
  | .tag k (.nest i (.append a b)), j => by
    unfold nrs
    split
    · rfl
    · exact nrs_id b j
  | .nil, j => rfl
  | .line, j => rfl
  | .align _, j => rfl
  | .text _, j => rfl
  | .append _ _, j => rfl
  | .group _ _, j => rfl
  | .nest _ _, j => rfl
  | .tag _ .nil, j => rfl
  | .tag _ .line, j => rfl
  | .tag _ (.align _), j => rfl
  | .tag _ (.text _), j => rfl
  | .tag _ (.append _ _), j => rfl
  | .tag _ (.group _ _), j => rfl
  | .tag _ (.tag _ _), j => rfl
  | .tag _ (.nest _ .nil), j => rfl
  | .tag _ (.nest _ .line), j => rfl
  | .tag _ (.nest _ (.align _)), j => rfl
  | .tag _ (.nest _ (.text _)), j => rfl
  | .tag _ (.nest _ (.nest _ _)), j => rfl
  | .tag _ (.nest _ (.group _ _)), j => rfl
  | .tag _ (.nest _ (.tag _ _)), j => rfl
/-- a block at the top -/
def PuBt (F b : Nat) (mc mr : Mem) (e p : Int) : Prop :=
  (∃ q t, p < q ∧ q ≤ e ∧ (∀ (L : Nat) (xs : Nat → Int32) (d : Nat) (V : Nat → Int), b ≤ d → ∃ V', Fr (kd mc) V V' p q ∧ P (kd mc) (VF V') t 8 0 p q ∧ Cx F (d + 10) 24 [67, 0] (Hp L xs (gv p V mc)) = some ([1], Hp L xs (gv q V' mc))) ∧ (∀ (L : Nat) (xs : Nat → Int32) (d : Nat) (j : Mem), b ≤ d → JI j p → ∃ j', JI j' q ∧ Cx F (d + 10) 230 [158] (Hp L xs (rv p 0 (jt j mr))) = some ([], Hp L xs (rv q 0 (jt (jb j' j) mr))))) ∨
  (∃ q, p ≤ q ∧ q ≤ e ∧ (∀ (L : Nat) (xs : Nat → Int32) (d : Nat) (V : Nat → Int), b ≤ d → ∃ V', Cx F (d + 10) 24 [67, 0] (Hp L xs (gv p V mc)) = some ([0], Hp L xs (gv q V' mc))) ∧ (∀ (L : Nat) (xs : Nat → Int32) (d : Nat) (j : Mem), b ≤ d → JI j p → ∃ j' dp, Cx F (d + 10) 230 [158] (Hp L xs (rv p 0 (jt j mr))) = some ([], Hp L xs (fl q dp (jt (jb j' j) mr)))))
theorem hp_67 {L : Nat} {xs : Nat → Int32} {q q' : Int} {V V' : Nat → Int} {mc : Mem} (h : Hp L xs (gv q V mc) = Hp L xs (gv q' V' mc)) : q = q' := by
  have e4 := congrArg (fun h : xH => h.2.2.2 67 1) h
  simpa only [g_67_1, gv_p] using e4
theorem PuBt_ok {F b : Nat} {mc mr : Mem} {e p : Int} (H : ∀ j, PuX F b 24 230 8 mc (jt j mr) e 0 p) : PuBt F b mc mr e p := by
  rcases H mr with ⟨q, t, g1, g2, g3, g4⟩ | ⟨q, g1, g2, g3, g4⟩
  · refine Or.inl ⟨q, t, g1, g2, g3, fun L xs d j hd hj => ?_⟩
    rcases H j with ⟨q', t', k1, k2, k3, k4⟩ | ⟨q', k1, k2, k3, k4⟩
    · obtain ⟨V1, -, -, c1⟩ := g3 L xs d (fun _ => 0) hd
      obtain ⟨V2, -, -, c2⟩ := k3 L xs d (fun _ => 0) hd
      have e1 := Option.some.inj (c1.symm.trans c2)
      have e2 : q = q' := hp_67 (congrArg Prod.snd e1)
      subst e2
      obtain ⟨j', hj', c⟩ := k4 L xs d (jt j mr) hd hj
      rw [jb_self, jb_jt] at c
      exact ⟨j', hj', c⟩
    · obtain ⟨V1, -, -, c1⟩ := g3 L xs d (fun _ => 0) hd
      obtain ⟨V2, c2⟩ := k3 L xs d (fun _ => 0) hd
      have e1 := Option.some.inj (c1.symm.trans c2)
      have e2 : [(1 : Int)] = [0] := congrArg Prod.fst e1
      exact absurd e2 (by decide)
  · refine Or.inr ⟨q, g1, g2, g3, fun L xs d j hd hj => ?_⟩
    rcases H j with ⟨q', t', k1, k2, k3, k4⟩ | ⟨q', k1, k2, k3, k4⟩
    · obtain ⟨V1, c1⟩ := g3 L xs d (fun _ => 0) hd
      obtain ⟨V2, -, -, c2⟩ := k3 L xs d (fun _ => 0) hd
      have e1 := Option.some.inj (c1.symm.trans c2)
      have e2 : [(0 : Int)] = [1] := congrArg Prod.fst e1
      exact absurd e2 (by decide)
    · obtain ⟨V1, c1⟩ := g3 L xs d (fun _ => 0) hd
      obtain ⟨V2, c2⟩ := k3 L xs d (fun _ => 0) hd
      have e1 := Option.some.inj (c1.symm.trans c2)
      have e2 : q = q' := hp_67 (congrArg Prod.snd e1)
      subst e2
      obtain ⟨j', dp, c⟩ := k4 L xs d (jt j mr) hd hj
      rw [jb_self, jb_jt] at c
      exact ⟨j', dp, c⟩
